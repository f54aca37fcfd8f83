section
-- ===== PART A: goes FIRST, ahead of the names: the tables' words, and 'selects' of the private methods out of them =====
/-- a private method of a class that the tables say can be made, by its rows of tables_1 -/
def lw_okq (q : MethodName × Nat) : Prop := (q.1.cls ≠ "java/lang/invoke/MethodHandle" ∧ q.1.cls ≠ "java/lang/invoke/VarHandle") ∧ Cond.instantiable q.1.cls q.2 ∈ tables_1 ∧ Cond.privateMethod q.1 ∈ tables_1 ∧ Cond.instanceMethod q.1 ∈ tables_1
theorem lw_p0 : lw_okq (⟨"GapRow", "call", "(III)I"⟩, 7) := ⟨⟨by decide +kernel, by decide +kernel⟩, List.mem_of_getElem? (i := 9) (by decide +kernel), List.mem_of_getElem? (i := 168) (by decide +kernel), List.mem_of_getElem? (i := 169) (by decide +kernel)⟩
theorem lw_p1 : lw_okq (⟨"GapRow", "refusalOf", "(III)I"⟩, 7) := ⟨⟨by decide +kernel, by decide +kernel⟩, List.mem_of_getElem? (i := 9) (by decide +kernel), List.mem_of_getElem? (i := 172) (by decide +kernel), List.mem_of_getElem? (i := 173) (by decide +kernel)⟩
theorem lw_p2 : lw_okq (⟨"GapRow$Row", "cellOf", "(I)I"⟩, 12) := ⟨⟨by decide +kernel, by decide +kernel⟩, List.mem_of_getElem? (i := 17) (by decide +kernel), List.mem_of_getElem? (i := 179) (by decide +kernel), List.mem_of_getElem? (i := 180) (by decide +kernel)⟩
theorem lw_p3 : lw_okq (⟨"GapRow$Row", "keyIn", "(I)I"⟩, 12) := ⟨⟨by decide +kernel, by decide +kernel⟩, List.mem_of_getElem? (i := 17) (by decide +kernel), List.mem_of_getElem? (i := 183) (by decide +kernel), List.mem_of_getElem? (i := 184) (by decide +kernel)⟩
theorem lw_p4 : lw_okq (⟨"GapRow$Row", "keysBelow", "(I)I"⟩, 12) := ⟨⟨by decide +kernel, by decide +kernel⟩, List.mem_of_getElem? (i := 17) (by decide +kernel), List.mem_of_getElem? (i := 193) (by decide +kernel), List.mem_of_getElem? (i := 194) (by decide +kernel)⟩
theorem lw_p5 : lw_okq (⟨"GapRow$Row", "cellNumber", "(I)I"⟩, 12) := ⟨⟨by decide +kernel, by decide +kernel⟩, List.mem_of_getElem? (i := 17) (by decide +kernel), List.mem_of_getElem? (i := 197) (by decide +kernel), List.mem_of_getElem? (i := 198) (by decide +kernel)⟩
theorem lw_p6 : lw_okq (⟨"GapRow$Row", "top", "()I"⟩, 12) := ⟨⟨by decide +kernel, by decide +kernel⟩, List.mem_of_getElem? (i := 17) (by decide +kernel), List.mem_of_getElem? (i := 204) (by decide +kernel), List.mem_of_getElem? (i := 205) (by decide +kernel)⟩
theorem lw_p7 : lw_okq (⟨"GapRow$Row", "keysIn", "(II)I"⟩, 12) := ⟨⟨by decide +kernel, by decide +kernel⟩, List.mem_of_getElem? (i := 17) (by decide +kernel), List.mem_of_getElem? (i := 214) (by decide +kernel), List.mem_of_getElem? (i := 215) (by decide +kernel)⟩
theorem lw_p8 : lw_okq (⟨"GapRow$Row", "most", "(I)I"⟩, 12) := ⟨⟨by decide +kernel, by decide +kernel⟩, List.mem_of_getElem? (i := 17) (by decide +kernel), List.mem_of_getElem? (i := 218) (by decide +kernel), List.mem_of_getElem? (i := 219) (by decide +kernel)⟩
theorem lw_p9 : lw_okq (⟨"GapRow", "refuse", "(I)I"⟩, 7) := ⟨⟨by decide +kernel, by decide +kernel⟩, List.mem_of_getElem? (i := 9) (by decide +kernel), List.mem_of_getElem? (i := 227) (by decide +kernel), List.mem_of_getElem? (i := 228) (by decide +kernel)⟩
theorem lw_p10 : lw_okq (⟨"GapRow$States", "keep", "(LGapRow$Row;)V"⟩, 2) := ⟨⟨by decide +kernel, by decide +kernel⟩, List.mem_of_getElem? (i := 94) (by decide +kernel), List.mem_of_getElem? (i := 231) (by decide +kernel), List.mem_of_getElem? (i := 232) (by decide +kernel)⟩
theorem lw_p11 : lw_okq (⟨"GapRow$States", "mark", "(LGapRow$Row;)V"⟩, 2) := ⟨⟨by decide +kernel, by decide +kernel⟩, List.mem_of_getElem? (i := 94) (by decide +kernel), List.mem_of_getElem? (i := 235) (by decide +kernel), List.mem_of_getElem? (i := 236) (by decide +kernel)⟩
theorem lw_p12 : lw_okq (⟨"GapRow$Row", "copyOf", "(LGapRow$Row;)V"⟩, 12) := ⟨⟨by decide +kernel, by decide +kernel⟩, List.mem_of_getElem? (i := 17) (by decide +kernel), List.mem_of_getElem? (i := 240) (by decide +kernel), List.mem_of_getElem? (i := 241) (by decide +kernel)⟩
theorem lw_p13 : lw_okq (⟨"GapRow$States", "keepMark", "()V"⟩, 2) := ⟨⟨by decide +kernel, by decide +kernel⟩, List.mem_of_getElem? (i := 94) (by decide +kernel), List.mem_of_getElem? (i := 244) (by decide +kernel), List.mem_of_getElem? (i := 245) (by decide +kernel)⟩
theorem lw_p14 : lw_okq (⟨"GapRow", "carryOut", "(III)I"⟩, 7) := ⟨⟨by decide +kernel, by decide +kernel⟩, List.mem_of_getElem? (i := 9) (by decide +kernel), List.mem_of_getElem? (i := 248) (by decide +kernel), List.mem_of_getElem? (i := 249) (by decide +kernel)⟩
theorem lw_p15 : lw_okq (⟨"GapRow", "putKey", "(II)I"⟩, 7) := ⟨⟨by decide +kernel, by decide +kernel⟩, List.mem_of_getElem? (i := 9) (by decide +kernel), List.mem_of_getElem? (i := 252) (by decide +kernel), List.mem_of_getElem? (i := 253) (by decide +kernel)⟩
def lw_privs_1 : List (MethodName × Nat) := [(⟨"GapRow", "call", "(III)I"⟩, 7), (⟨"GapRow", "refusalOf", "(III)I"⟩, 7), (⟨"GapRow$Row", "cellOf", "(I)I"⟩, 12), (⟨"GapRow$Row", "keyIn", "(I)I"⟩, 12), (⟨"GapRow$Row", "keysBelow", "(I)I"⟩, 12), (⟨"GapRow$Row", "cellNumber", "(I)I"⟩, 12), (⟨"GapRow$Row", "top", "()I"⟩, 12), (⟨"GapRow$Row", "keysIn", "(II)I"⟩, 12), (⟨"GapRow$Row", "most", "(I)I"⟩, 12), (⟨"GapRow", "refuse", "(I)I"⟩, 7), (⟨"GapRow$States", "keep", "(LGapRow$Row;)V"⟩, 2), (⟨"GapRow$States", "mark", "(LGapRow$Row;)V"⟩, 2), (⟨"GapRow$Row", "copyOf", "(LGapRow$Row;)V"⟩, 12), (⟨"GapRow$States", "keepMark", "()V"⟩, 2), (⟨"GapRow", "carryOut", "(III)I"⟩, 7), (⟨"GapRow", "putKey", "(II)I"⟩, 7)]
theorem lw_r1 : ∀ q ∈ lw_privs_1, lw_okq q := List.forall_mem_cons.mpr ⟨lw_p0, List.forall_mem_cons.mpr ⟨lw_p1, List.forall_mem_cons.mpr ⟨lw_p2, List.forall_mem_cons.mpr ⟨lw_p3, List.forall_mem_cons.mpr ⟨lw_p4, List.forall_mem_cons.mpr ⟨lw_p5, List.forall_mem_cons.mpr ⟨lw_p6, List.forall_mem_cons.mpr ⟨lw_p7, List.forall_mem_cons.mpr ⟨lw_p8, List.forall_mem_cons.mpr ⟨lw_p9, List.forall_mem_cons.mpr ⟨lw_p10, List.forall_mem_cons.mpr ⟨lw_p11, List.forall_mem_cons.mpr ⟨lw_p12, List.forall_mem_cons.mpr ⟨lw_p13, List.forall_mem_cons.mpr ⟨lw_p14, List.forall_mem_cons.mpr ⟨lw_p15, fun _ h => absurd h List.not_mem_nil⟩⟩⟩⟩⟩⟩⟩⟩⟩⟩⟩⟩⟩⟩⟩⟩
theorem lw_p16 : lw_okq (⟨"GapRow$Spacer", "come", "(LGapRow$Row;II)I"⟩, 5) := ⟨⟨by decide +kernel, by decide +kernel⟩, List.mem_of_getElem? (i := 72) (by decide +kernel), List.mem_of_getElem? (i := 256) (by decide +kernel), List.mem_of_getElem? (i := 257) (by decide +kernel)⟩
theorem lw_p17 : lw_okq (⟨"GapRow$Spacer", "takeUp", "(LGapRow$Row;II)V"⟩, 5) := ⟨⟨by decide +kernel, by decide +kernel⟩, List.mem_of_getElem? (i := 72) (by decide +kernel), List.mem_of_getElem? (i := 260) (by decide +kernel), List.mem_of_getElem? (i := 261) (by decide +kernel)⟩
theorem lw_p18 : lw_okq (⟨"GapRow$Row", "valueIn", "(I)I"⟩, 12) := ⟨⟨by decide +kernel, by decide +kernel⟩, List.mem_of_getElem? (i := 17) (by decide +kernel), List.mem_of_getElem? (i := 265) (by decide +kernel), List.mem_of_getElem? (i := 266) (by decide +kernel)⟩
theorem lw_p19 : lw_okq (⟨"GapRow$Row", "fill", "(III)V"⟩, 12) := ⟨⟨by decide +kernel, by decide +kernel⟩, List.mem_of_getElem? (i := 17) (by decide +kernel), List.mem_of_getElem? (i := 269) (by decide +kernel), List.mem_of_getElem? (i := 270) (by decide +kernel)⟩
theorem lw_p20 : lw_okq (⟨"GapRow$Spacer", "takeIn", "(II)V"⟩, 5) := ⟨⟨by decide +kernel, by decide +kernel⟩, List.mem_of_getElem? (i := 72) (by decide +kernel), List.mem_of_getElem? (i := 276) (by decide +kernel), List.mem_of_getElem? (i := 277) (by decide +kernel)⟩
theorem lw_p21 : lw_okq (⟨"GapRow$Spacer", "layDown", "(LGapRow$Row;II)I"⟩, 5) := ⟨⟨by decide +kernel, by decide +kernel⟩, List.mem_of_getElem? (i := 72) (by decide +kernel), List.mem_of_getElem? (i := 280) (by decide +kernel), List.mem_of_getElem? (i := 281) (by decide +kernel)⟩
theorem lw_p22 : lw_okq (⟨"GapRow$Row", "note", "(III)V"⟩, 12) := ⟨⟨by decide +kernel, by decide +kernel⟩, List.mem_of_getElem? (i := 17) (by decide +kernel), List.mem_of_getElem? (i := 284) (by decide +kernel), List.mem_of_getElem? (i := 285) (by decide +kernel)⟩
theorem lw_p23 : lw_okq (⟨"GapRow$Spacer", "go", "(LGapRow$Row;I)I"⟩, 5) := ⟨⟨by decide +kernel, by decide +kernel⟩, List.mem_of_getElem? (i := 72) (by decide +kernel), List.mem_of_getElem? (i := 291) (by decide +kernel), List.mem_of_getElem? (i := 292) (by decide +kernel)⟩
theorem lw_p24 : lw_okq (⟨"GapRow$Row", "least", "(I)I"⟩, 12) := ⟨⟨by decide +kernel, by decide +kernel⟩, List.mem_of_getElem? (i := 17) (by decide +kernel), List.mem_of_getElem? (i := 295) (by decide +kernel), List.mem_of_getElem? (i := 296) (by decide +kernel)⟩
theorem lw_p25 : lw_okq (⟨"GapRow$Spacer", "space", "(LGapRow$Row;II)I"⟩, 5) := ⟨⟨by decide +kernel, by decide +kernel⟩, List.mem_of_getElem? (i := 72) (by decide +kernel), List.mem_of_getElem? (i := 299) (by decide +kernel), List.mem_of_getElem? (i := 300) (by decide +kernel)⟩
theorem lw_p26 : lw_okq (⟨"GapRow$Spacer", "shrink", "(LGapRow$Row;)V"⟩, 5) := ⟨⟨by decide +kernel, by decide +kernel⟩, List.mem_of_getElem? (i := 72) (by decide +kernel), List.mem_of_getElem? (i := 303) (by decide +kernel), List.mem_of_getElem? (i := 304) (by decide +kernel)⟩
theorem lw_p27 : lw_okq (⟨"GapRow", "dropKeys", "(II)I"⟩, 7) := ⟨⟨by decide +kernel, by decide +kernel⟩, List.mem_of_getElem? (i := 9) (by decide +kernel), List.mem_of_getElem? (i := 307) (by decide +kernel), List.mem_of_getElem? (i := 308) (by decide +kernel)⟩
theorem lw_p28 : lw_okq (⟨"GapRow", "turnMode", "(I)I"⟩, 7) := ⟨⟨by decide +kernel, by decide +kernel⟩, List.mem_of_getElem? (i := 9) (by decide +kernel), List.mem_of_getElem? (i := 313) (by decide +kernel), List.mem_of_getElem? (i := 314) (by decide +kernel)⟩
theorem lw_p29 : lw_okq (⟨"GapRow$Row", "keyNumber", "(I)I"⟩, 12) := ⟨⟨by decide +kernel, by decide +kernel⟩, List.mem_of_getElem? (i := 17) (by decide +kernel), List.mem_of_getElem? (i := 355) (by decide +kernel), List.mem_of_getElem? (i := 356) (by decide +kernel)⟩
theorem lw_p30 : lw_okq (⟨"GapRow$Row", "valuesFrom", "(II)I"⟩, 12) := ⟨⟨by decide +kernel, by decide +kernel⟩, List.mem_of_getElem? (i := 17) (by decide +kernel), List.mem_of_getElem? (i := 364) (by decide +kernel), List.mem_of_getElem? (i := 365) (by decide +kernel)⟩
theorem lw_p31 : lw_okq (⟨"GapRow$Row", "cellsRead", "(II)I"⟩, 12) := ⟨⟨by decide +kernel, by decide +kernel⟩, List.mem_of_getElem? (i := 17) (by decide +kernel), List.mem_of_getElem? (i := 369) (by decide +kernel), List.mem_of_getElem? (i := 370) (by decide +kernel)⟩
def lw_privs_2 : List (MethodName × Nat) := [(⟨"GapRow$Spacer", "come", "(LGapRow$Row;II)I"⟩, 5), (⟨"GapRow$Spacer", "takeUp", "(LGapRow$Row;II)V"⟩, 5), (⟨"GapRow$Row", "valueIn", "(I)I"⟩, 12), (⟨"GapRow$Row", "fill", "(III)V"⟩, 12), (⟨"GapRow$Spacer", "takeIn", "(II)V"⟩, 5), (⟨"GapRow$Spacer", "layDown", "(LGapRow$Row;II)I"⟩, 5), (⟨"GapRow$Row", "note", "(III)V"⟩, 12), (⟨"GapRow$Spacer", "go", "(LGapRow$Row;I)I"⟩, 5), (⟨"GapRow$Row", "least", "(I)I"⟩, 12), (⟨"GapRow$Spacer", "space", "(LGapRow$Row;II)I"⟩, 5), (⟨"GapRow$Spacer", "shrink", "(LGapRow$Row;)V"⟩, 5), (⟨"GapRow", "dropKeys", "(II)I"⟩, 7), (⟨"GapRow", "turnMode", "(I)I"⟩, 7), (⟨"GapRow$Row", "keyNumber", "(I)I"⟩, 12), (⟨"GapRow$Row", "valuesFrom", "(II)I"⟩, 12), (⟨"GapRow$Row", "cellsRead", "(II)I"⟩, 12)]
theorem lw_r2 : ∀ q ∈ lw_privs_2, lw_okq q := List.forall_mem_cons.mpr ⟨lw_p16, List.forall_mem_cons.mpr ⟨lw_p17, List.forall_mem_cons.mpr ⟨lw_p18, List.forall_mem_cons.mpr ⟨lw_p19, List.forall_mem_cons.mpr ⟨lw_p20, List.forall_mem_cons.mpr ⟨lw_p21, List.forall_mem_cons.mpr ⟨lw_p22, List.forall_mem_cons.mpr ⟨lw_p23, List.forall_mem_cons.mpr ⟨lw_p24, List.forall_mem_cons.mpr ⟨lw_p25, List.forall_mem_cons.mpr ⟨lw_p26, List.forall_mem_cons.mpr ⟨lw_p27, List.forall_mem_cons.mpr ⟨lw_p28, List.forall_mem_cons.mpr ⟨lw_p29, List.forall_mem_cons.mpr ⟨lw_p30, List.forall_mem_cons.mpr ⟨lw_p31, fun _ h => absurd h List.not_mem_nil⟩⟩⟩⟩⟩⟩⟩⟩⟩⟩⟩⟩⟩⟩⟩⟩
theorem lw_p32 : lw_okq (⟨"GapRow$Row", "leastKeyOf", "(I)I"⟩, 12) := ⟨⟨by decide +kernel, by decide +kernel⟩, List.mem_of_getElem? (i := 17) (by decide +kernel), List.mem_of_getElem? (i := 378) (by decide +kernel), List.mem_of_getElem? (i := 379) (by decide +kernel)⟩
theorem lw_p33 : lw_okq (⟨"GapRow", "counted", "(I)I"⟩, 7) := ⟨⟨by decide +kernel, by decide +kernel⟩, List.mem_of_getElem? (i := 9) (by decide +kernel), List.mem_of_getElem? (i := 395) (by decide +kernel), List.mem_of_getElem? (i := 396) (by decide +kernel)⟩
theorem lw_p34 : lw_okq (⟨"GapRow$Row", "logged", "(II)I"⟩, 12) := ⟨⟨by decide +kernel, by decide +kernel⟩, List.mem_of_getElem? (i := 17) (by decide +kernel), List.mem_of_getElem? (i := 403) (by decide +kernel), List.mem_of_getElem? (i := 404) (by decide +kernel)⟩
theorem lw_p35 : lw_okq (⟨"GapRow", "faultOfText", "()I"⟩, 7) := ⟨⟨by decide +kernel, by decide +kernel⟩, List.mem_of_getElem? (i := 9) (by decide +kernel), List.mem_of_getElem? (i := 420) (by decide +kernel), List.mem_of_getElem? (i := 421) (by decide +kernel)⟩
theorem lw_p36 : lw_okq (⟨"GapRow$Reader", "begin", "()V"⟩, 7) := ⟨⟨by decide +kernel, by decide +kernel⟩, List.mem_of_getElem? (i := 111) (by decide +kernel), List.mem_of_getElem? (i := 424) (by decide +kernel), List.mem_of_getElem? (i := 425) (by decide +kernel)⟩
theorem lw_p37 : lw_okq (⟨"GapRow$Reader", "take", "(I)I"⟩, 7) := ⟨⟨by decide +kernel, by decide +kernel⟩, List.mem_of_getElem? (i := 111) (by decide +kernel), List.mem_of_getElem? (i := 428) (by decide +kernel), List.mem_of_getElem? (i := 429) (by decide +kernel)⟩
theorem lw_p38 : lw_okq (⟨"GapRow$Reader", "takeKind", "(I)I"⟩, 7) := ⟨⟨by decide +kernel, by decide +kernel⟩, List.mem_of_getElem? (i := 111) (by decide +kernel), List.mem_of_getElem? (i := 432) (by decide +kernel), List.mem_of_getElem? (i := 433) (by decide +kernel)⟩
theorem lw_p39 : lw_okq (⟨"GapRow$Reader", "takeFigure", "(I)I"⟩, 7) := ⟨⟨by decide +kernel, by decide +kernel⟩, List.mem_of_getElem? (i := 111) (by decide +kernel), List.mem_of_getElem? (i := 439) (by decide +kernel), List.mem_of_getElem? (i := 440) (by decide +kernel)⟩
theorem lw_p40 : lw_okq (⟨"GapRow$Reader", "mayEnd", "()Z"⟩, 7) := ⟨⟨by decide +kernel, by decide +kernel⟩, List.mem_of_getElem? (i := 111) (by decide +kernel), List.mem_of_getElem? (i := 443) (by decide +kernel), List.mem_of_getElem? (i := 444) (by decide +kernel)⟩
theorem lw_p41 : lw_okq (⟨"GapRow$States", "returnToMark", "(LGapRow$Row;)V"⟩, 2) := ⟨⟨by decide +kernel, by decide +kernel⟩, List.mem_of_getElem? (i := 94) (by decide +kernel), List.mem_of_getElem? (i := 448) (by decide +kernel), List.mem_of_getElem? (i := 449) (by decide +kernel)⟩
theorem lw_p42 : lw_okq (⟨"GapRow$States", "goBack", "(LGapRow$Row;)Z"⟩, 2) := ⟨⟨by decide +kernel, by decide +kernel⟩, List.mem_of_getElem? (i := 94) (by decide +kernel), List.mem_of_getElem? (i := 457) (by decide +kernel), List.mem_of_getElem? (i := 458) (by decide +kernel)⟩
theorem lw_p43 : lw_okq (⟨"GapRow", "toldOf", "(I)I"⟩, 7) := ⟨⟨by decide +kernel, by decide +kernel⟩, List.mem_of_getElem? (i := 9) (by decide +kernel), List.mem_of_getElem? (i := 466) (by decide +kernel), List.mem_of_getElem? (i := 467) (by decide +kernel)⟩
theorem lw_p44 : lw_okq (⟨"GapRowModel", "laysAside", "()V"⟩, 17) := ⟨⟨by decide +kernel, by decide +kernel⟩, List.mem_of_getElem? (i := 476) (by decide +kernel), List.mem_of_getElem? (i := 538) (by decide +kernel), List.mem_of_getElem? (i := 539) (by decide +kernel)⟩
theorem lw_p45 : lw_okq (⟨"GapRowModel", "putOf", "(II)I"⟩, 17) := ⟨⟨by decide +kernel, by decide +kernel⟩, List.mem_of_getElem? (i := 476) (by decide +kernel), List.mem_of_getElem? (i := 542) (by decide +kernel), List.mem_of_getElem? (i := 543) (by decide +kernel)⟩
theorem lw_p46 : lw_okq (⟨"GapRowModel", "cellOf", "(I)I"⟩, 17) := ⟨⟨by decide +kernel, by decide +kernel⟩, List.mem_of_getElem? (i := 476) (by decide +kernel), List.mem_of_getElem? (i := 549) (by decide +kernel), List.mem_of_getElem? (i := 550) (by decide +kernel)⟩
theorem lw_p47 : lw_okq (⟨"GapRowModel", "comes", "(II)I"⟩, 17) := ⟨⟨by decide +kernel, by decide +kernel⟩, List.mem_of_getElem? (i := 476) (by decide +kernel), List.mem_of_getElem? (i := 553) (by decide +kernel), List.mem_of_getElem? (i := 554) (by decide +kernel)⟩
def lw_privs_3 : List (MethodName × Nat) := [(⟨"GapRow$Row", "leastKeyOf", "(I)I"⟩, 12), (⟨"GapRow", "counted", "(I)I"⟩, 7), (⟨"GapRow$Row", "logged", "(II)I"⟩, 12), (⟨"GapRow", "faultOfText", "()I"⟩, 7), (⟨"GapRow$Reader", "begin", "()V"⟩, 7), (⟨"GapRow$Reader", "take", "(I)I"⟩, 7), (⟨"GapRow$Reader", "takeKind", "(I)I"⟩, 7), (⟨"GapRow$Reader", "takeFigure", "(I)I"⟩, 7), (⟨"GapRow$Reader", "mayEnd", "()Z"⟩, 7), (⟨"GapRow$States", "returnToMark", "(LGapRow$Row;)V"⟩, 2), (⟨"GapRow$States", "goBack", "(LGapRow$Row;)Z"⟩, 2), (⟨"GapRow", "toldOf", "(I)I"⟩, 7), (⟨"GapRowModel", "laysAside", "()V"⟩, 17), (⟨"GapRowModel", "putOf", "(II)I"⟩, 17), (⟨"GapRowModel", "cellOf", "(I)I"⟩, 17), (⟨"GapRowModel", "comes", "(II)I"⟩, 17)]
theorem lw_r3 : ∀ q ∈ lw_privs_3, lw_okq q := List.forall_mem_cons.mpr ⟨lw_p32, List.forall_mem_cons.mpr ⟨lw_p33, List.forall_mem_cons.mpr ⟨lw_p34, List.forall_mem_cons.mpr ⟨lw_p35, List.forall_mem_cons.mpr ⟨lw_p36, List.forall_mem_cons.mpr ⟨lw_p37, List.forall_mem_cons.mpr ⟨lw_p38, List.forall_mem_cons.mpr ⟨lw_p39, List.forall_mem_cons.mpr ⟨lw_p40, List.forall_mem_cons.mpr ⟨lw_p41, List.forall_mem_cons.mpr ⟨lw_p42, List.forall_mem_cons.mpr ⟨lw_p43, List.forall_mem_cons.mpr ⟨lw_p44, List.forall_mem_cons.mpr ⟨lw_p45, List.forall_mem_cons.mpr ⟨lw_p46, List.forall_mem_cons.mpr ⟨lw_p47, fun _ h => absurd h List.not_mem_nil⟩⟩⟩⟩⟩⟩⟩⟩⟩⟩⟩⟩⟩⟩⟩⟩
theorem lw_p48 : lw_okq (⟨"GapRowModel", "segmentFor", "(I)I"⟩, 17) := ⟨⟨by decide +kernel, by decide +kernel⟩, List.mem_of_getElem? (i := 476) (by decide +kernel), List.mem_of_getElem? (i := 557) (by decide +kernel), List.mem_of_getElem? (i := 558) (by decide +kernel)⟩
theorem lw_p49 : lw_okq (⟨"GapRowModel", "top", "()I"⟩, 17) := ⟨⟨by decide +kernel, by decide +kernel⟩, List.mem_of_getElem? (i := 476) (by decide +kernel), List.mem_of_getElem? (i := 561) (by decide +kernel), List.mem_of_getElem? (i := 562) (by decide +kernel)⟩
theorem lw_p50 : lw_okq (⟨"GapRowModel", "keysIn", "(II)I"⟩, 17) := ⟨⟨by decide +kernel, by decide +kernel⟩, List.mem_of_getElem? (i := 476) (by decide +kernel), List.mem_of_getElem? (i := 568) (by decide +kernel), List.mem_of_getElem? (i := 569) (by decide +kernel)⟩
theorem lw_p51 : lw_okq (⟨"GapRowModel", "most", "(I)I"⟩, 17) := ⟨⟨by decide +kernel, by decide +kernel⟩, List.mem_of_getElem? (i := 476) (by decide +kernel), List.mem_of_getElem? (i := 572) (by decide +kernel), List.mem_of_getElem? (i := 573) (by decide +kernel)⟩
theorem lw_p52 : lw_okq (⟨"GapRowModel", "spacesWindow", "(IIII)I"⟩, 17) := ⟨⟨by decide +kernel, by decide +kernel⟩, List.mem_of_getElem? (i := 476) (by decide +kernel), List.mem_of_getElem? (i := 576) (by decide +kernel), List.mem_of_getElem? (i := 577) (by decide +kernel)⟩
theorem lw_p53 : lw_okq (⟨"GapRowModel", "takesOut", "(IIII)V"⟩, 17) := ⟨⟨by decide +kernel, by decide +kernel⟩, List.mem_of_getElem? (i := 476) (by decide +kernel), List.mem_of_getElem? (i := 580) (by decide +kernel), List.mem_of_getElem? (i := 581) (by decide +kernel)⟩
theorem lw_p54 : lw_okq (⟨"GapRowModel", "lays", "(III)V"⟩, 17) := ⟨⟨by decide +kernel, by decide +kernel⟩, List.mem_of_getElem? (i := 476) (by decide +kernel), List.mem_of_getElem? (i := 584) (by decide +kernel), List.mem_of_getElem? (i := 585) (by decide +kernel)⟩
theorem lw_p55 : lw_okq (⟨"GapRowModel", "putsBack", "(II)I"⟩, 17) := ⟨⟨by decide +kernel, by decide +kernel⟩, List.mem_of_getElem? (i := 476) (by decide +kernel), List.mem_of_getElem? (i := 588) (by decide +kernel), List.mem_of_getElem? (i := 589) (by decide +kernel)⟩
theorem lw_p56 : lw_okq (⟨"GapRowModel", "done", "(I)I"⟩, 17) := ⟨⟨by decide +kernel, by decide +kernel⟩, List.mem_of_getElem? (i := 476) (by decide +kernel), List.mem_of_getElem? (i := 592) (by decide +kernel), List.mem_of_getElem? (i := 593) (by decide +kernel)⟩
theorem lw_p57 : lw_okq (⟨"GapRowModel", "answers", "(IZ)I"⟩, 17) := ⟨⟨by decide +kernel, by decide +kernel⟩, List.mem_of_getElem? (i := 476) (by decide +kernel), List.mem_of_getElem? (i := 596) (by decide +kernel), List.mem_of_getElem? (i := 597) (by decide +kernel)⟩
theorem lw_p58 : lw_okq (⟨"GapRowModel", "leaves", "()V"⟩, 17) := ⟨⟨by decide +kernel, by decide +kernel⟩, List.mem_of_getElem? (i := 476) (by decide +kernel), List.mem_of_getElem? (i := 600) (by decide +kernel), List.mem_of_getElem? (i := 601) (by decide +kernel)⟩
theorem lw_p59 : lw_okq (⟨"GapRowModel", "takeOf", "(I)I"⟩, 17) := ⟨⟨by decide +kernel, by decide +kernel⟩, List.mem_of_getElem? (i := 476) (by decide +kernel), List.mem_of_getElem? (i := 608) (by decide +kernel), List.mem_of_getElem? (i := 609) (by decide +kernel)⟩
theorem lw_p60 : lw_okq (⟨"GapRowModel", "goes", "(I)V"⟩, 17) := ⟨⟨by decide +kernel, by decide +kernel⟩, List.mem_of_getElem? (i := 476) (by decide +kernel), List.mem_of_getElem? (i := 612) (by decide +kernel), List.mem_of_getElem? (i := 613) (by decide +kernel)⟩
theorem lw_p61 : lw_okq (⟨"GapRowModel", "least", "(I)I"⟩, 17) := ⟨⟨by decide +kernel, by decide +kernel⟩, List.mem_of_getElem? (i := 476) (by decide +kernel), List.mem_of_getElem? (i := 616) (by decide +kernel), List.mem_of_getElem? (i := 617) (by decide +kernel)⟩
theorem lw_p62 : lw_okq (⟨"GapRowModel", "dropOf", "(II)I"⟩, 17) := ⟨⟨by decide +kernel, by decide +kernel⟩, List.mem_of_getElem? (i := 476) (by decide +kernel), List.mem_of_getElem? (i := 624) (by decide +kernel), List.mem_of_getElem? (i := 625) (by decide +kernel)⟩
theorem lw_p63 : lw_okq (⟨"GapRowModel", "modeOf", "(I)I"⟩, 17) := ⟨⟨by decide +kernel, by decide +kernel⟩, List.mem_of_getElem? (i := 476) (by decide +kernel), List.mem_of_getElem? (i := 632) (by decide +kernel), List.mem_of_getElem? (i := 633) (by decide +kernel)⟩
def lw_privs_4 : List (MethodName × Nat) := [(⟨"GapRowModel", "segmentFor", "(I)I"⟩, 17), (⟨"GapRowModel", "top", "()I"⟩, 17), (⟨"GapRowModel", "keysIn", "(II)I"⟩, 17), (⟨"GapRowModel", "most", "(I)I"⟩, 17), (⟨"GapRowModel", "spacesWindow", "(IIII)I"⟩, 17), (⟨"GapRowModel", "takesOut", "(IIII)V"⟩, 17), (⟨"GapRowModel", "lays", "(III)V"⟩, 17), (⟨"GapRowModel", "putsBack", "(II)I"⟩, 17), (⟨"GapRowModel", "done", "(I)I"⟩, 17), (⟨"GapRowModel", "answers", "(IZ)I"⟩, 17), (⟨"GapRowModel", "leaves", "()V"⟩, 17), (⟨"GapRowModel", "takeOf", "(I)I"⟩, 17), (⟨"GapRowModel", "goes", "(I)V"⟩, 17), (⟨"GapRowModel", "least", "(I)I"⟩, 17), (⟨"GapRowModel", "dropOf", "(II)I"⟩, 17), (⟨"GapRowModel", "modeOf", "(I)I"⟩, 17)]
theorem lw_r4 : ∀ q ∈ lw_privs_4, lw_okq q := List.forall_mem_cons.mpr ⟨lw_p48, List.forall_mem_cons.mpr ⟨lw_p49, List.forall_mem_cons.mpr ⟨lw_p50, List.forall_mem_cons.mpr ⟨lw_p51, List.forall_mem_cons.mpr ⟨lw_p52, List.forall_mem_cons.mpr ⟨lw_p53, List.forall_mem_cons.mpr ⟨lw_p54, List.forall_mem_cons.mpr ⟨lw_p55, List.forall_mem_cons.mpr ⟨lw_p56, List.forall_mem_cons.mpr ⟨lw_p57, List.forall_mem_cons.mpr ⟨lw_p58, List.forall_mem_cons.mpr ⟨lw_p59, List.forall_mem_cons.mpr ⟨lw_p60, List.forall_mem_cons.mpr ⟨lw_p61, List.forall_mem_cons.mpr ⟨lw_p62, List.forall_mem_cons.mpr ⟨lw_p63, fun _ h => absurd h List.not_mem_nil⟩⟩⟩⟩⟩⟩⟩⟩⟩⟩⟩⟩⟩⟩⟩⟩
theorem lw_p64 : lw_okq (⟨"GapRowModel", "bad", "()I"⟩, 17) := ⟨⟨by decide +kernel, by decide +kernel⟩, List.mem_of_getElem? (i := 476) (by decide +kernel), List.mem_of_getElem? (i := 648) (by decide +kernel), List.mem_of_getElem? (i := 649) (by decide +kernel)⟩
theorem lw_p65 : lw_okq (⟨"GapRowModel", "below", "(I)I"⟩, 17) := ⟨⟨by decide +kernel, by decide +kernel⟩, List.mem_of_getElem? (i := 476) (by decide +kernel), List.mem_of_getElem? (i := 664) (by decide +kernel), List.mem_of_getElem? (i := 665) (by decide +kernel)⟩
theorem lw_p66 : lw_okq (⟨"GapRowModel", "leastOf", "(I)I"⟩, 17) := ⟨⟨by decide +kernel, by decide +kernel⟩, List.mem_of_getElem? (i := 476) (by decide +kernel), List.mem_of_getElem? (i := 680) (by decide +kernel), List.mem_of_getElem? (i := 681) (by decide +kernel)⟩
theorem lw_p67 : lw_okq (⟨"GapRowModel", "countOf", "(I)I"⟩, 17) := ⟨⟨by decide +kernel, by decide +kernel⟩, List.mem_of_getElem? (i := 476) (by decide +kernel), List.mem_of_getElem? (i := 692) (by decide +kernel), List.mem_of_getElem? (i := 693) (by decide +kernel)⟩
theorem lw_p68 : lw_okq (⟨"GapRowModel", "reads", "()V"⟩, 17) := ⟨⟨by decide +kernel, by decide +kernel⟩, List.mem_of_getElem? (i := 476) (by decide +kernel), List.mem_of_getElem? (i := 712) (by decide +kernel), List.mem_of_getElem? (i := 713) (by decide +kernel)⟩
theorem lw_p69 : lw_okq (⟨"GapRowModel", "blanks", "()V"⟩, 17) := ⟨⟨by decide +kernel, by decide +kernel⟩, List.mem_of_getElem? (i := 476) (by decide +kernel), List.mem_of_getElem? (i := 716) (by decide +kernel), List.mem_of_getElem? (i := 717) (by decide +kernel)⟩
theorem lw_p70 : lw_okq (⟨"GapRowModel", "readsOrder", "()V"⟩, 17) := ⟨⟨by decide +kernel, by decide +kernel⟩, List.mem_of_getElem? (i := 476) (by decide +kernel), List.mem_of_getElem? (i := 720) (by decide +kernel), List.mem_of_getElem? (i := 721) (by decide +kernel)⟩
theorem lw_p71 : lw_okq (⟨"GapRowModel", "number", "()I"⟩, 17) := ⟨⟨by decide +kernel, by decide +kernel⟩, List.mem_of_getElem? (i := 476) (by decide +kernel), List.mem_of_getElem? (i := 724) (by decide +kernel), List.mem_of_getElem? (i := 725) (by decide +kernel)⟩
theorem lw_p72 : lw_okq (⟨"GapRowModel", "isFigure", "()Z"⟩, 17) := ⟨⟨by decide +kernel, by decide +kernel⟩, List.mem_of_getElem? (i := 476) (by decide +kernel), List.mem_of_getElem? (i := 728) (by decide +kernel), List.mem_of_getElem? (i := 729) (by decide +kernel)⟩
theorem lw_p73 : lw_okq (⟨"GapRowModel", "sign", "(I)V"⟩, 17) := ⟨⟨by decide +kernel, by decide +kernel⟩, List.mem_of_getElem? (i := 476) (by decide +kernel), List.mem_of_getElem? (i := 732) (by decide +kernel), List.mem_of_getElem? (i := 733) (by decide +kernel)⟩
theorem lw_p74 : lw_okq (⟨"GapRowModel", "doneBy", "(I)I"⟩, 17) := ⟨⟨by decide +kernel, by decide +kernel⟩, List.mem_of_getElem? (i := 476) (by decide +kernel), List.mem_of_getElem? (i := 736) (by decide +kernel), List.mem_of_getElem? (i := 737) (by decide +kernel)⟩
theorem lw_p75 : lw_okq (⟨"GapRowModel", "comesBack", "()V"⟩, 17) := ⟨⟨by decide +kernel, by decide +kernel⟩, List.mem_of_getElem? (i := 476) (by decide +kernel), List.mem_of_getElem? (i := 740) (by decide +kernel), List.mem_of_getElem? (i := 741) (by decide +kernel)⟩
theorem lw_p76 : lw_okq (⟨"GapRowModel", "toldOf", "(I)I"⟩, 17) := ⟨⟨by decide +kernel, by decide +kernel⟩, List.mem_of_getElem? (i := 476) (by decide +kernel), List.mem_of_getElem? (i := 748) (by decide +kernel), List.mem_of_getElem? (i := 749) (by decide +kernel)⟩
def lw_privs_5 : List (MethodName × Nat) := [(⟨"GapRowModel", "bad", "()I"⟩, 17), (⟨"GapRowModel", "below", "(I)I"⟩, 17), (⟨"GapRowModel", "leastOf", "(I)I"⟩, 17), (⟨"GapRowModel", "countOf", "(I)I"⟩, 17), (⟨"GapRowModel", "reads", "()V"⟩, 17), (⟨"GapRowModel", "blanks", "()V"⟩, 17), (⟨"GapRowModel", "readsOrder", "()V"⟩, 17), (⟨"GapRowModel", "number", "()I"⟩, 17), (⟨"GapRowModel", "isFigure", "()Z"⟩, 17), (⟨"GapRowModel", "sign", "(I)V"⟩, 17), (⟨"GapRowModel", "doneBy", "(I)I"⟩, 17), (⟨"GapRowModel", "comesBack", "()V"⟩, 17), (⟨"GapRowModel", "toldOf", "(I)I"⟩, 17)]
theorem lw_r5 : ∀ q ∈ lw_privs_5, lw_okq q := List.forall_mem_cons.mpr ⟨lw_p64, List.forall_mem_cons.mpr ⟨lw_p65, List.forall_mem_cons.mpr ⟨lw_p66, List.forall_mem_cons.mpr ⟨lw_p67, List.forall_mem_cons.mpr ⟨lw_p68, List.forall_mem_cons.mpr ⟨lw_p69, List.forall_mem_cons.mpr ⟨lw_p70, List.forall_mem_cons.mpr ⟨lw_p71, List.forall_mem_cons.mpr ⟨lw_p72, List.forall_mem_cons.mpr ⟨lw_p73, List.forall_mem_cons.mpr ⟨lw_p74, List.forall_mem_cons.mpr ⟨lw_p75, List.forall_mem_cons.mpr ⟨lw_p76, fun _ h => absurd h List.not_mem_nil⟩⟩⟩⟩⟩⟩⟩⟩⟩⟩⟩⟩⟩
def lw_privs : List (MethodName × Nat) := lw_privs_1 ++ (lw_privs_2 ++ (lw_privs_3 ++ (lw_privs_4 ++ (lw_privs_5))))
def lw_tbl : List Cond := k2_sels lw_privs ++ tables_1
theorem lw_privs_ok : ∀ q ∈ lw_privs, lw_okq q := by
  show ∀ q ∈ lw_privs_1 ++ (lw_privs_2 ++ (lw_privs_3 ++ (lw_privs_4 ++ (lw_privs_5)))), lw_okq q
  exact List.forall_mem_append.mpr ⟨lw_r1, List.forall_mem_append.mpr ⟨lw_r2, List.forall_mem_append.mpr ⟨lw_r3, List.forall_mem_append.mpr ⟨lw_r4, lw_r5⟩⟩⟩⟩
end
section
def RX0 : String := "GapRow$Reader"
def TX0 : u_T := fun k => match k with
  | 0 => ("GapRow$Reader", "kind", "I", false)
  | 1 => ("GapRow$Reader", "first", "I", false)
  | 2 => ("GapRow$Reader", "second", "I", false)
  | 3 => ("GapRow$Reader", "open", "Z", false)
  | 4 => ("GapRow$Reader", "orders", "I", false)
  | 5 => ("GapRow$Reader", "numbers", "I", false)
  | _ => ("GapRow$Reader", "figures", "I", false)
def tyX0 : Nat → FieldType := fun k => match k with
  | 0 => .int
  | 1 => .int
  | 2 => .int
  | 3 => .boolean
  | 4 => .int
  | 5 => .int
  | _ => .int
theorem nmX0 : ∀ a, a < 7 → ∀ b, b < 7 → a ≠ b → (TX0 a).2.1 ≠ (TX0 b).2.1 := by decide +kernel
theorem tyX0_ok : ∀ k, k < 7 → parseFieldDescriptor (TX0 k).2.2.1 = some (tyX0 k) := by decide +kernel
abbrev cX0_init : ByteArray := prog_2_method_1_code
def yX0_init : MethodName := ⟨RX0, "<init>", "()V"⟩
abbrev cX0_begin : ByteArray := prog_2_method_2_code
def yX0_begin : MethodName := ⟨RX0, "begin", "()V"⟩
abbrev cX0_mayEnd : ByteArray := prog_2_method_3_code
def yX0_mayEnd : MethodName := ⟨RX0, "mayEnd", "()Z"⟩
abbrev cX0_take : ByteArray := prog_2_method_4_code
def yX0_take : MethodName := ⟨RX0, "take", "(I)I"⟩
abbrev cX0_takeKind : ByteArray := prog_2_method_5_code
def yX0_takeKind : MethodName := ⟨RX0, "takeKind", "(I)I"⟩
abbrev cX0_takeFigure : ByteArray := prog_2_method_6_code
def yX0_takeFigure : MethodName := ⟨RX0, "takeFigure", "(I)I"⟩
abbrev cX0_numbersOf : ByteArray := prog_2_method_7_code
def yX0_numbersOf : MethodName := ⟨RX0, "numbersOf", "(I)I"⟩
def RX1 : String := "GapRow$Row"
def TX1 : u_T := fun k => match k with
  | 0 => ("GapRow$Row", "size", "I", false)
  | 1 => ("GapRow$Row", "mode", "I", false)
  | 2 => ("GapRow$Row", "spacings", "I", false)
  | 3 => ("GapRow$Row", "moves", "I", false)
  | 4 => ("GapRow$Row", "doubled", "I", false)
  | 5 => ("GapRow$Row", "halved", "I", false)
  | 6 => ("GapRow$Row", "logLength", "I", false)
  | 7 => ("GapRow$Row", "keys", "[I", true)
  | 8 => ("GapRow$Row", "values", "[I", true)
  | 9 => ("GapRow$Row", "logFrom", "[I", true)
  | 10 => ("GapRow$Row", "logCells", "[I", true)
  | _ => ("GapRow$Row", "logMoves", "[I", true)
def tyX1 : Nat → FieldType := fun k => match k with
  | 0 => .int
  | 1 => .int
  | 2 => .int
  | 3 => .int
  | 4 => .int
  | 5 => .int
  | 6 => .int
  | 7 => .array .int
  | 8 => .array .int
  | 9 => .array .int
  | 10 => .array .int
  | _ => .array .int
theorem nmX1 : ∀ a, a < 12 → ∀ b, b < 12 → a ≠ b → (TX1 a).2.1 ≠ (TX1 b).2.1 := by decide +kernel
theorem tyX1_ok : ∀ k, k < 12 → parseFieldDescriptor (TX1 k).2.2.1 = some (tyX1 k) := by decide +kernel
abbrev cX1_init : ByteArray := prog_3_method_1_code
def yX1_init : MethodName := ⟨RX1, "<init>", "()V"⟩
abbrev cX1_copyOf : ByteArray := prog_3_method_2_code
def yX1_copyOf : MethodName := ⟨RX1, "copyOf", "(LGapRow$Row;)V"⟩
abbrev cX1_keyIn : ByteArray := prog_3_method_3_code
def yX1_keyIn : MethodName := ⟨RX1, "keyIn", "(I)I"⟩
abbrev cX1_valueIn : ByteArray := prog_3_method_4_code
def yX1_valueIn : MethodName := ⟨RX1, "valueIn", "(I)I"⟩
abbrev cX1_fill : ByteArray := prog_3_method_5_code
def yX1_fill : MethodName := ⟨RX1, "fill", "(III)V"⟩
abbrev cX1_cellOf : ByteArray := prog_3_method_6_code
def yX1_cellOf : MethodName := ⟨RX1, "cellOf", "(I)I"⟩
abbrev cX1_cellNumber : ByteArray := prog_3_method_7_code
def yX1_cellNumber : MethodName := ⟨RX1, "cellNumber", "(I)I"⟩
abbrev cX1_keyNumber : ByteArray := prog_3_method_8_code
def yX1_keyNumber : MethodName := ⟨RX1, "keyNumber", "(I)I"⟩
abbrev cX1_keysBelow : ByteArray := prog_3_method_9_code
def yX1_keysBelow : MethodName := ⟨RX1, "keysBelow", "(I)I"⟩
abbrev cX1_keysIn : ByteArray := prog_3_method_10_code
def yX1_keysIn : MethodName := ⟨RX1, "keysIn", "(II)I"⟩
abbrev cX1_valuesFrom : ByteArray := prog_3_method_11_code
def yX1_valuesFrom : MethodName := ⟨RX1, "valuesFrom", "(II)I"⟩
abbrev cX1_cellsRead : ByteArray := prog_3_method_12_code
def yX1_cellsRead : MethodName := ⟨RX1, "cellsRead", "(II)I"⟩
abbrev cX1_leastKeyOf : ByteArray := prog_3_method_13_code
def yX1_leastKeyOf : MethodName := ⟨RX1, "leastKeyOf", "(I)I"⟩
abbrev cX1_top : ByteArray := prog_3_method_14_code
def yX1_top : MethodName := ⟨RX1, "top", "()I"⟩
abbrev cX1_most : ByteArray := prog_3_method_15_code
def yX1_most : MethodName := ⟨RX1, "most", "(I)I"⟩
abbrev cX1_least : ByteArray := prog_3_method_16_code
def yX1_least : MethodName := ⟨RX1, "least", "(I)I"⟩
abbrev cX1_logged : ByteArray := prog_3_method_17_code
def yX1_logged : MethodName := ⟨RX1, "logged", "(II)I"⟩
abbrev cX1_note : ByteArray := prog_3_method_18_code
def yX1_note : MethodName := ⟨RX1, "note", "(III)V"⟩
def RX2 : String := "GapRow$Spacer"
def TX2 : u_T := fun k => match k with
  | 0 => ("GapRow$Spacer", "keys", "[I", true)
  | 1 => ("GapRow$Spacer", "values", "[I", true)
  | 2 => ("GapRow$Spacer", "cellsAhead", "[I", true)
  | 3 => ("GapRow$Spacer", "held", "I", false)
  | _ => ("GapRow$Spacer", "newcomer", "I", false)
def tyX2 : Nat → FieldType := fun k => match k with
  | 0 => .array .int
  | 1 => .array .int
  | 2 => .array .int
  | 3 => .int
  | _ => .int
theorem nmX2 : ∀ a, a < 5 → ∀ b, b < 5 → a ≠ b → (TX2 a).2.1 ≠ (TX2 b).2.1 := by decide +kernel
theorem tyX2_ok : ∀ k, k < 5 → parseFieldDescriptor (TX2 k).2.2.1 = some (tyX2 k) := by decide +kernel
abbrev cX2_init : ByteArray := prog_4_method_1_code
def yX2_init : MethodName := ⟨RX2, "<init>", "()V"⟩
abbrev cX2_hasRoom : ByteArray := prog_4_method_2_code
def yX2_hasRoom : MethodName := ⟨RX2, "hasRoom", "(LGapRow$Row;I)Z"⟩
abbrev cX2_segmentFor : ByteArray := prog_4_method_3_code
def yX2_segmentFor : MethodName := ⟨RX2, "segmentFor", "(LGapRow$Row;I)I"⟩
abbrev cX2_levelFor : ByteArray := prog_4_method_4_code
def yX2_levelFor : MethodName := ⟨RX2, "levelFor", "(LGapRow$Row;I)I"⟩
abbrev cX2_windowStart : ByteArray := prog_4_method_5_code
def yX2_windowStart : MethodName := ⟨RX2, "windowStart", "(II)I"⟩
abbrev cX2_come : ByteArray := prog_4_method_6_code
def yX2_come : MethodName := ⟨RX2, "come", "(LGapRow$Row;II)I"⟩
abbrev cX2_go : ByteArray := prog_4_method_7_code
def yX2_go : MethodName := ⟨RX2, "go", "(LGapRow$Row;I)I"⟩
abbrev cX2_shrink : ByteArray := prog_4_method_8_code
def yX2_shrink : MethodName := ⟨RX2, "shrink", "(LGapRow$Row;)V"⟩
abbrev cX2_space : ByteArray := prog_4_method_9_code
def yX2_space : MethodName := ⟨RX2, "space", "(LGapRow$Row;II)I"⟩
abbrev cX2_takeUp : ByteArray := prog_4_method_10_code
def yX2_takeUp : MethodName := ⟨RX2, "takeUp", "(LGapRow$Row;II)V"⟩
abbrev cX2_takeIn : ByteArray := prog_4_method_11_code
def yX2_takeIn : MethodName := ⟨RX2, "takeIn", "(II)V"⟩
abbrev cX2_layDown : ByteArray := prog_4_method_12_code
def yX2_layDown : MethodName := ⟨RX2, "layDown", "(LGapRow$Row;II)I"⟩
def RX3 : String := "GapRow$States"
def TX3 : u_T := fun k => match k with
  | 0 => ("GapRow$States", "rows", "[LGapRow$Row;", true)
  | _ => ("GapRow$States", "held", "I", false)
def tyX3 : Nat → FieldType := fun k => match k with
  | 0 => .array (.object "GapRow$Row")
  | _ => .int
theorem nmX3 : ∀ a, a < 2 → ∀ b, b < 2 → a ≠ b → (TX3 a).2.1 ≠ (TX3 b).2.1 := by decide +kernel
theorem tyX3_ok : ∀ k, k < 2 → parseFieldDescriptor (TX3 k).2.2.1 = some (tyX3 k) := by decide +kernel
abbrev cX3_init : ByteArray := prog_5_method_1_code
def yX3_init : MethodName := ⟨RX3, "<init>", "()V"⟩
abbrev cX3_keep : ByteArray := prog_5_method_2_code
def yX3_keep : MethodName := ⟨RX3, "keep", "(LGapRow$Row;)V"⟩
abbrev cX3_mark : ByteArray := prog_5_method_3_code
def yX3_mark : MethodName := ⟨RX3, "mark", "(LGapRow$Row;)V"⟩
abbrev cX3_returnToMark : ByteArray := prog_5_method_4_code
def yX3_returnToMark : MethodName := ⟨RX3, "returnToMark", "(LGapRow$Row;)V"⟩
abbrev cX3_keepMark : ByteArray := prog_5_method_5_code
def yX3_keepMark : MethodName := ⟨RX3, "keepMark", "()V"⟩
abbrev cX3_goBack : ByteArray := prog_5_method_6_code
def yX3_goBack : MethodName := ⟨RX3, "goBack", "(LGapRow$Row;)Z"⟩
def RX4 : String := "GapRow"
def TX4 : u_T := fun k => match k with
  | 0 => ("GapRow", "row", "LGapRow$Row;", true)
  | 1 => ("GapRow", "spacer", "LGapRow$Spacer;", true)
  | 2 => ("GapRow", "states", "LGapRow$States;", true)
  | 3 => ("GapRow", "reader", "LGapRow$Reader;", true)
  | 4 => ("GapRow", "text", "[I", true)
  | 5 => ("GapRow", "textLength", "I", false)
  | _ => ("GapRow", "refused", "[I", true)
def tyX4 : Nat → FieldType := fun k => match k with
  | 0 => .object "GapRow$Row"
  | 1 => .object "GapRow$Spacer"
  | 2 => .object "GapRow$States"
  | 3 => .object "GapRow$Reader"
  | 4 => .array .int
  | 5 => .int
  | _ => .array .int
theorem nmX4 : ∀ a, a < 7 → ∀ b, b < 7 → a ≠ b → (TX4 a).2.1 ≠ (TX4 b).2.1 := by decide +kernel
theorem tyX4_ok : ∀ k, k < 7 → parseFieldDescriptor (TX4 k).2.2.1 = some (tyX4 k) := by decide +kernel
abbrev cX4_init : ByteArray := prog_1_method_1_code
def yX4_init : MethodName := ⟨RX4, "<init>", "()V"⟩
abbrev cX4_puts : ByteArray := prog_1_method_2_code
def yX4_puts : MethodName := ⟨RX4, "puts", "(II)I"⟩
abbrev cX4_takes : ByteArray := prog_1_method_3_code
def yX4_takes : MethodName := ⟨RX4, "takes", "(I)I"⟩
abbrev cX4_drops : ByteArray := prog_1_method_4_code
def yX4_drops : MethodName := ⟨RX4, "drops", "(II)I"⟩
abbrev cX4_mode : ByteArray := prog_1_method_5_code
def yX4_mode : MethodName := ⟨RX4, "mode", "(I)I"⟩
abbrev cX4_spaces : ByteArray := prog_1_method_6_code
def yX4_spaces : MethodName := ⟨RX4, "spaces", "()I"⟩
abbrev cX4_value : ByteArray := prog_1_method_7_code
def yX4_value : MethodName := ⟨RX4, "value", "(I)I"⟩
abbrev cX4_cell : ByteArray := prog_1_method_8_code
def yX4_cell : MethodName := ⟨RX4, "cell", "(I)I"⟩
abbrev cX4_at : ByteArray := prog_1_method_9_code
def yX4_at : MethodName := ⟨RX4, "at", "(I)I"⟩
abbrev cX4_rank : ByteArray := prog_1_method_10_code
def yX4_rank : MethodName := ⟨RX4, "rank", "(I)I"⟩
abbrev cX4_key : ByteArray := prog_1_method_11_code
def yX4_key : MethodName := ⟨RX4, "key", "(I)I"⟩
abbrev cX4_scan : ByteArray := prog_1_method_12_code
def yX4_scan : MethodName := ⟨RX4, "scan", "(III)I"⟩
abbrev cX4_index : ByteArray := prog_1_method_13_code
def yX4_index : MethodName := ⟨RX4, "index", "(I)I"⟩
abbrev cX4_window : ByteArray := prog_1_method_14_code
def yX4_window : MethodName := ⟨RX4, "window", "(III)I"⟩
abbrev cX4_count : ByteArray := prog_1_method_15_code
def yX4_count : MethodName := ⟨RX4, "count", "(I)I"⟩
abbrev cX4_log : ByteArray := prog_1_method_16_code
def yX4_log : MethodName := ⟨RX4, "log", "(II)I"⟩
abbrev cX4_type : ByteArray := prog_1_method_17_code
def yX4_type : MethodName := ⟨RX4, "type", "(I)I"⟩
abbrev cX4_clear : ByteArray := prog_1_method_18_code
def yX4_clear : MethodName := ⟨RX4, "clear", "()I"⟩
abbrev cX4_does : ByteArray := prog_1_method_19_code
def yX4_does : MethodName := ⟨RX4, "does", "()I"⟩
abbrev cX4_back : ByteArray := prog_1_method_20_code
def yX4_back : MethodName := ⟨RX4, "back", "()I"⟩
abbrev cX4_told : ByteArray := prog_1_method_21_code
def yX4_told : MethodName := ⟨RX4, "told", "(I)I"⟩
abbrev cX4_digest : ByteArray := prog_1_method_22_code
def yX4_digest : MethodName := ⟨RX4, "digest", "()J"⟩
abbrev cX4_call : ByteArray := prog_1_method_23_code
def yX4_call : MethodName := ⟨RX4, "call", "(III)I"⟩
abbrev cX4_refusalOf : ByteArray := prog_1_method_24_code
def yX4_refusalOf : MethodName := ⟨RX4, "refusalOf", "(III)I"⟩
abbrev cX4_carryOut : ByteArray := prog_1_method_25_code
def yX4_carryOut : MethodName := ⟨RX4, "carryOut", "(III)I"⟩
abbrev cX4_turnMode : ByteArray := prog_1_method_26_code
def yX4_turnMode : MethodName := ⟨RX4, "turnMode", "(I)I"⟩
abbrev cX4_putKey : ByteArray := prog_1_method_27_code
def yX4_putKey : MethodName := ⟨RX4, "putKey", "(II)I"⟩
abbrev cX4_dropKeys : ByteArray := prog_1_method_28_code
def yX4_dropKeys : MethodName := ⟨RX4, "dropKeys", "(II)I"⟩
abbrev cX4_refuse : ByteArray := prog_1_method_29_code
def yX4_refuse : MethodName := ⟨RX4, "refuse", "(I)I"⟩
abbrev cX4_counted : ByteArray := prog_1_method_30_code
def yX4_counted : MethodName := ⟨RX4, "counted", "(I)I"⟩
abbrev cX4_toldOf : ByteArray := prog_1_method_31_code
def yX4_toldOf : MethodName := ⟨RX4, "toldOf", "(I)I"⟩
abbrev cX4_faultOfText : ByteArray := prog_1_method_32_code
def yX4_faultOfText : MethodName := ⟨RX4, "faultOfText", "()I"⟩
abbrev cX4_within : ByteArray := prog_1_method_33_code
def yX4_within : MethodName := ⟨RX4, "within", "(II)Z"⟩
abbrev cX4_isSpan : ByteArray := prog_1_method_34_code
def yX4_isSpan : MethodName := ⟨RX4, "isSpan", "(II)Z"⟩
abbrev cX4_cellsOf : ByteArray := prog_1_method_35_code
def yX4_cellsOf : MethodName := ⟨RX4, "cellsOf", "(I)I"⟩
def RX5 : String := "GapRowModel"
def TX5 : u_T := fun k => match k with
  | 0 => ("GapRowModel", "thrown", "I", false)
  | 1 => ("GapRowModel", "s", "[I", true)
  | 2 => ("GapRowModel", "past", "[I", true)
  | 3 => ("GapRowModel", "states", "I", false)
  | 4 => ("GapRowModel", "aside", "[I", true)
  | 5 => ("GapRowModel", "refused", "[I", true)
  | 6 => ("GapRowModel", "key", "[I", true)
  | 7 => ("GapRowModel", "value", "[I", true)
  | 8 => ("GapRowModel", "was", "[I", true)
  | 9 => ("GapRowModel", "many", "I", false)
  | 10 => ("GapRowModel", "came", "I", false)
  | 11 => ("GapRowModel", "text", "[I", true)
  | 12 => ("GapRowModel", "typed", "I", false)
  | 13 => ("GapRowModel", "spot", "I", false)
  | 14 => ("GapRowModel", "order", "[I", true)
  | 15 => ("GapRowModel", "orders", "I", false)
  | _ => ("GapRowModel", "fault", "I", false)
def tyX5 : Nat → FieldType := fun k => match k with
  | 0 => .int
  | 1 => .array .int
  | 2 => .array .int
  | 3 => .int
  | 4 => .array .int
  | 5 => .array .int
  | 6 => .array .int
  | 7 => .array .int
  | 8 => .array .int
  | 9 => .int
  | 10 => .int
  | 11 => .array .int
  | 12 => .int
  | 13 => .int
  | 14 => .array .int
  | 15 => .int
  | _ => .int
theorem nmX5 : ∀ a, a < 17 → ∀ b, b < 17 → a ≠ b → (TX5 a).2.1 ≠ (TX5 b).2.1 := by decide +kernel
theorem tyX5_ok : ∀ k, k < 17 → parseFieldDescriptor (TX5 k).2.2.1 = some (tyX5 k) := by decide +kernel
abbrev cX5_init : ByteArray := prog_7_method_1_code
def yX5_init : MethodName := ⟨RX5, "<init>", "()V"⟩
abbrev cX5_in : ByteArray := prog_7_method_3_code
def yX5_in : MethodName := ⟨RX5, "in", "(III)Z"⟩
abbrev cX5_answers : ByteArray := prog_7_method_4_code
def yX5_answers : MethodName := ⟨RX5, "answers", "(IZ)I"⟩
abbrev cX5_bad : ByteArray := prog_7_method_5_code
def yX5_bad : MethodName := ⟨RX5, "bad", "()I"⟩
abbrev cX5_top : ByteArray := prog_7_method_6_code
def yX5_top : MethodName := ⟨RX5, "top", "()I"⟩
abbrev cX5_wide : ByteArray := prog_7_method_7_code
def yX5_wide : MethodName := ⟨RX5, "wide", "(I)I"⟩
abbrev cX5_most : ByteArray := prog_7_method_8_code
def yX5_most : MethodName := ⟨RX5, "most", "(I)I"⟩
abbrev cX5_least : ByteArray := prog_7_method_9_code
def yX5_least : MethodName := ⟨RX5, "least", "(I)I"⟩
abbrev cX5_keysIn : ByteArray := prog_7_method_10_code
def yX5_keysIn : MethodName := ⟨RX5, "keysIn", "(II)I"⟩
abbrev cX5_cellOf : ByteArray := prog_7_method_11_code
def yX5_cellOf : MethodName := ⟨RX5, "cellOf", "(I)I"⟩
abbrev cX5_lays : ByteArray := prog_7_method_12_code
def yX5_lays : MethodName := ⟨RX5, "lays", "(III)V"⟩
abbrev cX5_takesOut : ByteArray := prog_7_method_13_code
def yX5_takesOut : MethodName := ⟨RX5, "takesOut", "(IIII)V"⟩
abbrev cX5_putsBack : ByteArray := prog_7_method_14_code
def yX5_putsBack : MethodName := ⟨RX5, "putsBack", "(II)I"⟩
abbrev cX5_spacesWindow : ByteArray := prog_7_method_15_code
def yX5_spacesWindow : MethodName := ⟨RX5, "spacesWindow", "(IIII)I"⟩
abbrev cX5_segmentFor : ByteArray := prog_7_method_16_code
def yX5_segmentFor : MethodName := ⟨RX5, "segmentFor", "(I)I"⟩
abbrev cX5_comes : ByteArray := prog_7_method_17_code
def yX5_comes : MethodName := ⟨RX5, "comes", "(II)I"⟩
abbrev cX5_goes : ByteArray := prog_7_method_18_code
def yX5_goes : MethodName := ⟨RX5, "goes", "(I)V"⟩
abbrev cX5_putOf : ByteArray := prog_7_method_19_code
def yX5_putOf : MethodName := ⟨RX5, "putOf", "(II)I"⟩
abbrev cX5_takeOf : ByteArray := prog_7_method_20_code
def yX5_takeOf : MethodName := ⟨RX5, "takeOf", "(I)I"⟩
abbrev cX5_dropOf : ByteArray := prog_7_method_21_code
def yX5_dropOf : MethodName := ⟨RX5, "dropOf", "(II)I"⟩
abbrev cX5_modeOf : ByteArray := prog_7_method_22_code
def yX5_modeOf : MethodName := ⟨RX5, "modeOf", "(I)I"⟩
abbrev cX5_laysAside : ByteArray := prog_7_method_23_code
def yX5_laysAside : MethodName := ⟨RX5, "laysAside", "()V"⟩
abbrev cX5_comesBack : ByteArray := prog_7_method_24_code
def yX5_comesBack : MethodName := ⟨RX5, "comesBack", "()V"⟩
abbrev cX5_leaves : ByteArray := prog_7_method_25_code
def yX5_leaves : MethodName := ⟨RX5, "leaves", "()V"⟩
abbrev cX5_done : ByteArray := prog_7_method_26_code
def yX5_done : MethodName := ⟨RX5, "done", "(I)I"⟩
abbrev cX5_puts : ByteArray := prog_7_method_27_code
def yX5_puts : MethodName := ⟨RX5, "puts", "(II)I"⟩
abbrev cX5_takes : ByteArray := prog_7_method_28_code
def yX5_takes : MethodName := ⟨RX5, "takes", "(I)I"⟩
abbrev cX5_drops : ByteArray := prog_7_method_29_code
def yX5_drops : MethodName := ⟨RX5, "drops", "(II)I"⟩
abbrev cX5_mode : ByteArray := prog_7_method_30_code
def yX5_mode : MethodName := ⟨RX5, "mode", "(I)I"⟩
abbrev cX5_spaces : ByteArray := prog_7_method_31_code
def yX5_spaces : MethodName := ⟨RX5, "spaces", "()I"⟩
abbrev cX5_back : ByteArray := prog_7_method_32_code
def yX5_back : MethodName := ⟨RX5, "back", "()I"⟩
abbrev cX5_value : ByteArray := prog_7_method_33_code
def yX5_value : MethodName := ⟨RX5, "value", "(I)I"⟩
abbrev cX5_cell : ByteArray := prog_7_method_34_code
def yX5_cell : MethodName := ⟨RX5, "cell", "(I)I"⟩
abbrev cX5_at : ByteArray := prog_7_method_35_code
def yX5_at : MethodName := ⟨RX5, "at", "(I)I"⟩
abbrev cX5_below : ByteArray := prog_7_method_36_code
def yX5_below : MethodName := ⟨RX5, "below", "(I)I"⟩
abbrev cX5_rank : ByteArray := prog_7_method_37_code
def yX5_rank : MethodName := ⟨RX5, "rank", "(I)I"⟩
abbrev cX5_key : ByteArray := prog_7_method_38_code
def yX5_key : MethodName := ⟨RX5, "key", "(I)I"⟩
abbrev cX5_scan : ByteArray := prog_7_method_39_code
def yX5_scan : MethodName := ⟨RX5, "scan", "(III)I"⟩
abbrev cX5_leastOf : ByteArray := prog_7_method_40_code
def yX5_leastOf : MethodName := ⟨RX5, "leastOf", "(I)I"⟩
abbrev cX5_index : ByteArray := prog_7_method_41_code
def yX5_index : MethodName := ⟨RX5, "index", "(I)I"⟩
abbrev cX5_window : ByteArray := prog_7_method_42_code
def yX5_window : MethodName := ⟨RX5, "window", "(III)I"⟩
abbrev cX5_countOf : ByteArray := prog_7_method_43_code
def yX5_countOf : MethodName := ⟨RX5, "countOf", "(I)I"⟩
abbrev cX5_count : ByteArray := prog_7_method_44_code
def yX5_count : MethodName := ⟨RX5, "count", "(I)I"⟩
abbrev cX5_log : ByteArray := prog_7_method_45_code
def yX5_log : MethodName := ⟨RX5, "log", "(II)I"⟩
abbrev cX5_type : ByteArray := prog_7_method_46_code
def yX5_type : MethodName := ⟨RX5, "type", "(I)I"⟩
abbrev cX5_clear : ByteArray := prog_7_method_47_code
def yX5_clear : MethodName := ⟨RX5, "clear", "()I"⟩
abbrev cX5_blanks : ByteArray := prog_7_method_48_code
def yX5_blanks : MethodName := ⟨RX5, "blanks", "()V"⟩
abbrev cX5_isFigure : ByteArray := prog_7_method_49_code
def yX5_isFigure : MethodName := ⟨RX5, "isFigure", "()Z"⟩
abbrev cX5_number : ByteArray := prog_7_method_50_code
def yX5_number : MethodName := ⟨RX5, "number", "()I"⟩
abbrev cX5_sign : ByteArray := prog_7_method_51_code
def yX5_sign : MethodName := ⟨RX5, "sign", "(I)V"⟩
abbrev cX5_readsOrder : ByteArray := prog_7_method_52_code
def yX5_readsOrder : MethodName := ⟨RX5, "readsOrder", "()V"⟩
abbrev cX5_reads : ByteArray := prog_7_method_53_code
def yX5_reads : MethodName := ⟨RX5, "reads", "()V"⟩
abbrev cX5_doneBy : ByteArray := prog_7_method_54_code
def yX5_doneBy : MethodName := ⟨RX5, "doneBy", "(I)I"⟩
abbrev cX5_does : ByteArray := prog_7_method_55_code
def yX5_does : MethodName := ⟨RX5, "does", "()I"⟩
abbrev cX5_toldOf : ByteArray := prog_7_method_56_code
def yX5_toldOf : MethodName := ⟨RX5, "toldOf", "(I)I"⟩
abbrev cX5_told : ByteArray := prog_7_method_57_code
def yX5_told : MethodName := ⟨RX5, "told", "(I)I"⟩
abbrev cX5_digest : ByteArray := prog_7_method_58_code
def yX5_digest : MethodName := ⟨RX5, "digest", "()J"⟩
def RJ9 : String := "java/lang/Math"
def TJ9 : u_T := fun k => match k with
  | _ => ("", "", "", false)
def tyJ9 : Nat → FieldType := fun k => match k with
  | _ => .int
abbrev cJ9_min_7cf53 : ByteArray := prog_8_method_69_code
def yJ9_min_7cf53 : MethodName := ⟨RJ9, "min", "(II)I"⟩
def RL : String := "GapRowLaw"
abbrev cL_law : ByteArray := code
def yL_law : MethodName := ⟨RL, "law", "([I)Z"⟩
abbrev vwCl : List vw_C := [(RX0, TX0, 7), (RX1, TX1, 12), (RX2, TX2, 5), (RX3, TX3, 2), (RX4, TX4, 7), (RX5, TX5, 17)]
end
section
theorem dX0_init_0 : decode cX0_init 0 = .ok (.aload_n 0, 1) := by decide +kernel
theorem dX0_init_1 : decode cX0_init 1 = .ok (.invokespecial 3, 3) := by decide +kernel
theorem dX0_init_4 : decode cX0_init 4 = .ok (.return_, 1) := by decide +kernel
theorem dX0_begin_0 : decode cX0_begin 0 = .ok (.aload_n 0, 1) := by decide +kernel
theorem dX0_begin_1 : decode cX0_begin 1 = .ok (.iconst 0, 1) := by decide +kernel
theorem dX0_begin_2 : decode cX0_begin 2 = .ok (.putfield 9, 3) := by decide +kernel
theorem dX0_begin_5 : decode cX0_begin 5 = .ok (.aload_n 0, 1) := by decide +kernel
theorem dX0_begin_6 : decode cX0_begin 6 = .ok (.iconst 0, 1) := by decide +kernel
theorem dX0_begin_7 : decode cX0_begin 7 = .ok (.putfield 15, 3) := by decide +kernel
theorem dX0_begin_10 : decode cX0_begin 10 = .ok (.return_, 1) := by decide +kernel
theorem dX0_mayEnd_0 : decode cX0_mayEnd 0 = .ok (.aload_n 0, 1) := by decide +kernel
theorem dX0_mayEnd_1 : decode cX0_mayEnd 1 = .ok (.getfield 9, 3) := by decide +kernel
theorem dX0_mayEnd_4 : decode cX0_mayEnd 4 = .ok (.ifCond .ne 14, 3) := by decide +kernel
theorem dX0_mayEnd_7 : decode cX0_mayEnd 7 = .ok (.aload_n 0, 1) := by decide +kernel
theorem dX0_mayEnd_8 : decode cX0_mayEnd 8 = .ok (.getfield 15, 3) := by decide +kernel
theorem dX0_mayEnd_11 : decode cX0_mayEnd 11 = .ok (.ifCond .le 7, 3) := by decide +kernel
theorem dX0_mayEnd_14 : decode cX0_mayEnd 14 = .ok (.iconst 1, 1) := by decide +kernel
theorem dX0_mayEnd_15 : decode cX0_mayEnd 15 = .ok (.goto 4, 3) := by decide +kernel
theorem dX0_mayEnd_18 : decode cX0_mayEnd 18 = .ok (.iconst 0, 1) := by decide +kernel
theorem dX0_mayEnd_19 : decode cX0_mayEnd 19 = .ok (.ireturn, 1) := by decide +kernel
theorem dX0_take_0 : decode cX0_take 0 = .ok (.iload_n 1, 1) := by decide +kernel
theorem dX0_take_1 : decode cX0_take 1 = .ok (.bipush 32, 2) := by decide +kernel
theorem dX0_take_3 : decode cX0_take 3 = .ok (.if_icmp .ne 10, 3) := by decide +kernel
theorem dX0_take_6 : decode cX0_take 6 = .ok (.aload_n 0, 1) := by decide +kernel
theorem dX0_take_7 : decode cX0_take 7 = .ok (.iconst 0, 1) := by decide +kernel
theorem dX0_take_8 : decode cX0_take 8 = .ok (.putfield 19, 3) := by decide +kernel
theorem dX0_take_11 : decode cX0_take 11 = .ok (.iconst 1, 1) := by decide +kernel
theorem dX0_take_12 : decode cX0_take 12 = .ok (.ireturn, 1) := by decide +kernel
theorem dX0_take_13 : decode cX0_take 13 = .ok (.aload_n 0, 1) := by decide +kernel
theorem dX0_take_14 : decode cX0_take 14 = .ok (.getfield 9, 3) := by decide +kernel
theorem dX0_take_17 : decode cX0_take 17 = .ok (.ifCond .ne 9, 3) := by decide +kernel
theorem dX0_take_20 : decode cX0_take 20 = .ok (.aload_n 0, 1) := by decide +kernel
theorem dX0_take_21 : decode cX0_take 21 = .ok (.iload_n 1, 1) := by decide +kernel
theorem dX0_take_22 : decode cX0_take 22 = .ok (.invokevirtual 22, 3) := by decide +kernel
theorem dX0_take_25 : decode cX0_take 25 = .ok (.ireturn, 1) := by decide +kernel
theorem dX0_take_26 : decode cX0_take 26 = .ok (.iload_n 1, 1) := by decide +kernel
theorem dX0_take_27 : decode cX0_take 27 = .ok (.bipush 48, 2) := by decide +kernel
theorem dX0_take_29 : decode cX0_take 29 = .ok (.if_icmp .lt 18, 3) := by decide +kernel
theorem dX0_take_32 : decode cX0_take 32 = .ok (.iload_n 1, 1) := by decide +kernel
theorem dX0_take_33 : decode cX0_take 33 = .ok (.bipush 57, 2) := by decide +kernel
theorem dX0_take_35 : decode cX0_take 35 = .ok (.if_icmp .gt 12, 3) := by decide +kernel
theorem dX0_take_38 : decode cX0_take 38 = .ok (.aload_n 0, 1) := by decide +kernel
theorem dX0_take_39 : decode cX0_take 39 = .ok (.iload_n 1, 1) := by decide +kernel
theorem dX0_take_40 : decode cX0_take 40 = .ok (.bipush 48, 2) := by decide +kernel
theorem dX0_take_42 : decode cX0_take 42 = .ok (.isub, 1) := by decide +kernel
theorem dX0_take_43 : decode cX0_take 43 = .ok (.invokevirtual 26, 3) := by decide +kernel
theorem dX0_take_46 : decode cX0_take 46 = .ok (.ireturn, 1) := by decide +kernel
theorem dX0_take_47 : decode cX0_take 47 = .ok (.iload_n 1, 1) := by decide +kernel
theorem dX0_take_48 : decode cX0_take 48 = .ok (.bipush 59, 2) := by decide +kernel
theorem dX0_take_50 : decode cX0_take 50 = .ok (.if_icmp .ne 17, 3) := by decide +kernel
theorem dX0_take_53 : decode cX0_take 53 = .ok (.aload_n 0, 1) := by decide +kernel
theorem dX0_take_54 : decode cX0_take 54 = .ok (.getfield 29, 3) := by decide +kernel
theorem dX0_take_57 : decode cX0_take 57 = .ok (.aload_n 0, 1) := by decide +kernel
theorem dX0_take_58 : decode cX0_take 58 = .ok (.getfield 32, 3) := by decide +kernel
theorem dX0_take_61 : decode cX0_take 61 = .ok (.invokestatic 35, 3) := by decide +kernel
theorem dX0_take_64 : decode cX0_take 64 = .ok (.if_icmp .eq 5, 3) := by decide +kernel
theorem dX0_take_67 : decode cX0_take 67 = .ok (.iconst 0, 1) := by decide +kernel
theorem dX0_take_68 : decode cX0_take 68 = .ok (.ireturn, 1) := by decide +kernel
theorem dX0_take_69 : decode cX0_take 69 = .ok (.aload_n 0, 1) := by decide +kernel
theorem dX0_take_70 : decode cX0_take 70 = .ok (.iconst 0, 1) := by decide +kernel
theorem dX0_take_71 : decode cX0_take 71 = .ok (.putfield 9, 3) := by decide +kernel
theorem dX0_take_74 : decode cX0_take 74 = .ok (.aload_n 0, 1) := by decide +kernel
theorem dX0_take_75 : decode cX0_take 75 = .ok (.dup, 1) := by decide +kernel
theorem dX0_take_76 : decode cX0_take 76 = .ok (.getfield 15, 3) := by decide +kernel
theorem dX0_take_79 : decode cX0_take 79 = .ok (.iconst 1, 1) := by decide +kernel
theorem dX0_take_80 : decode cX0_take 80 = .ok (.iadd, 1) := by decide +kernel
theorem dX0_take_81 : decode cX0_take 81 = .ok (.putfield 15, 3) := by decide +kernel
theorem dX0_take_84 : decode cX0_take 84 = .ok (.iconst 2, 1) := by decide +kernel
theorem dX0_take_85 : decode cX0_take 85 = .ok (.ireturn, 1) := by decide +kernel
theorem dX0_takeKind_0 : decode cX0_takeKind 0 = .ok (.iload_n 1, 1) := by decide +kernel
theorem dX0_takeKind_1 : decode cX0_takeKind 1 = .ok (.invokestatic 35, 3) := by decide +kernel
theorem dX0_takeKind_4 : decode cX0_takeKind 4 = .ok (.ifCond .ne 5, 3) := by decide +kernel
theorem dX0_takeKind_7 : decode cX0_takeKind 7 = .ok (.iconst 0, 1) := by decide +kernel
theorem dX0_takeKind_8 : decode cX0_takeKind 8 = .ok (.ireturn, 1) := by decide +kernel
theorem dX0_takeKind_9 : decode cX0_takeKind 9 = .ok (.aload_n 0, 1) := by decide +kernel
theorem dX0_takeKind_10 : decode cX0_takeKind 10 = .ok (.iconst 1, 1) := by decide +kernel
theorem dX0_takeKind_11 : decode cX0_takeKind 11 = .ok (.putfield 9, 3) := by decide +kernel
theorem dX0_takeKind_14 : decode cX0_takeKind 14 = .ok (.aload_n 0, 1) := by decide +kernel
theorem dX0_takeKind_15 : decode cX0_takeKind 15 = .ok (.iload_n 1, 1) := by decide +kernel
theorem dX0_takeKind_16 : decode cX0_takeKind 16 = .ok (.putfield 32, 3) := by decide +kernel
theorem dX0_takeKind_19 : decode cX0_takeKind 19 = .ok (.aload_n 0, 1) := by decide +kernel
theorem dX0_takeKind_20 : decode cX0_takeKind 20 = .ok (.iconst 0, 1) := by decide +kernel
theorem dX0_takeKind_21 : decode cX0_takeKind 21 = .ok (.putfield 38, 3) := by decide +kernel
theorem dX0_takeKind_24 : decode cX0_takeKind 24 = .ok (.aload_n 0, 1) := by decide +kernel
theorem dX0_takeKind_25 : decode cX0_takeKind 25 = .ok (.iconst 0, 1) := by decide +kernel
theorem dX0_takeKind_26 : decode cX0_takeKind 26 = .ok (.putfield 41, 3) := by decide +kernel
theorem dX0_takeKind_29 : decode cX0_takeKind 29 = .ok (.aload_n 0, 1) := by decide +kernel
theorem dX0_takeKind_30 : decode cX0_takeKind 30 = .ok (.iconst 0, 1) := by decide +kernel
theorem dX0_takeKind_31 : decode cX0_takeKind 31 = .ok (.putfield 29, 3) := by decide +kernel
theorem dX0_takeKind_34 : decode cX0_takeKind 34 = .ok (.aload_n 0, 1) := by decide +kernel
theorem dX0_takeKind_35 : decode cX0_takeKind 35 = .ok (.iconst 0, 1) := by decide +kernel
theorem dX0_takeKind_36 : decode cX0_takeKind 36 = .ok (.putfield 19, 3) := by decide +kernel
theorem dX0_takeKind_39 : decode cX0_takeKind 39 = .ok (.iconst 1, 1) := by decide +kernel
theorem dX0_takeKind_40 : decode cX0_takeKind 40 = .ok (.ireturn, 1) := by decide +kernel
theorem dX0_takeFigure_0 : decode cX0_takeFigure 0 = .ok (.aload_n 0, 1) := by decide +kernel
theorem dX0_takeFigure_1 : decode cX0_takeFigure 1 = .ok (.getfield 19, 3) := by decide +kernel
theorem dX0_takeFigure_4 : decode cX0_takeFigure 4 = .ok (.ifCond .ne 29, 3) := by decide +kernel
theorem dX0_takeFigure_7 : decode cX0_takeFigure 7 = .ok (.aload_n 0, 1) := by decide +kernel
theorem dX0_takeFigure_8 : decode cX0_takeFigure 8 = .ok (.getfield 29, 3) := by decide +kernel
theorem dX0_takeFigure_11 : decode cX0_takeFigure 11 = .ok (.aload_n 0, 1) := by decide +kernel
theorem dX0_takeFigure_12 : decode cX0_takeFigure 12 = .ok (.getfield 32, 3) := by decide +kernel
theorem dX0_takeFigure_15 : decode cX0_takeFigure 15 = .ok (.invokestatic 35, 3) := by decide +kernel
theorem dX0_takeFigure_18 : decode cX0_takeFigure 18 = .ok (.if_icmp .ne 5, 3) := by decide +kernel
theorem dX0_takeFigure_21 : decode cX0_takeFigure 21 = .ok (.iconst 0, 1) := by decide +kernel
theorem dX0_takeFigure_22 : decode cX0_takeFigure 22 = .ok (.ireturn, 1) := by decide +kernel
theorem dX0_takeFigure_23 : decode cX0_takeFigure 23 = .ok (.aload_n 0, 1) := by decide +kernel
theorem dX0_takeFigure_24 : decode cX0_takeFigure 24 = .ok (.dup, 1) := by decide +kernel
theorem dX0_takeFigure_25 : decode cX0_takeFigure 25 = .ok (.getfield 29, 3) := by decide +kernel
theorem dX0_takeFigure_28 : decode cX0_takeFigure 28 = .ok (.iconst 1, 1) := by decide +kernel
theorem dX0_takeFigure_29 : decode cX0_takeFigure 29 = .ok (.iadd, 1) := by decide +kernel
theorem dX0_takeFigure_30 : decode cX0_takeFigure 30 = .ok (.putfield 29, 3) := by decide +kernel
theorem dX0_takeFigure_33 : decode cX0_takeFigure 33 = .ok (.aload_n 0, 1) := by decide +kernel
theorem dX0_takeFigure_34 : decode cX0_takeFigure 34 = .ok (.getfield 19, 3) := by decide +kernel
theorem dX0_takeFigure_37 : decode cX0_takeFigure 37 = .ok (.iconst 3, 1) := by decide +kernel
theorem dX0_takeFigure_38 : decode cX0_takeFigure 38 = .ok (.if_icmp .ne 5, 3) := by decide +kernel
theorem dX0_takeFigure_41 : decode cX0_takeFigure 41 = .ok (.iconst 0, 1) := by decide +kernel
theorem dX0_takeFigure_42 : decode cX0_takeFigure 42 = .ok (.ireturn, 1) := by decide +kernel
theorem dX0_takeFigure_43 : decode cX0_takeFigure 43 = .ok (.aload_n 0, 1) := by decide +kernel
theorem dX0_takeFigure_44 : decode cX0_takeFigure 44 = .ok (.dup, 1) := by decide +kernel
theorem dX0_takeFigure_45 : decode cX0_takeFigure 45 = .ok (.getfield 19, 3) := by decide +kernel
theorem dX0_takeFigure_48 : decode cX0_takeFigure 48 = .ok (.iconst 1, 1) := by decide +kernel
theorem dX0_takeFigure_49 : decode cX0_takeFigure 49 = .ok (.iadd, 1) := by decide +kernel
theorem dX0_takeFigure_50 : decode cX0_takeFigure 50 = .ok (.putfield 19, 3) := by decide +kernel
theorem dX0_takeFigure_53 : decode cX0_takeFigure 53 = .ok (.aload_n 0, 1) := by decide +kernel
theorem dX0_takeFigure_54 : decode cX0_takeFigure 54 = .ok (.getfield 29, 3) := by decide +kernel
theorem dX0_takeFigure_57 : decode cX0_takeFigure 57 = .ok (.iconst 1, 1) := by decide +kernel
theorem dX0_takeFigure_58 : decode cX0_takeFigure 58 = .ok (.if_icmp .ne 19, 3) := by decide +kernel
theorem dX0_takeFigure_61 : decode cX0_takeFigure 61 = .ok (.aload_n 0, 1) := by decide +kernel
theorem dX0_takeFigure_62 : decode cX0_takeFigure 62 = .ok (.bipush 10, 2) := by decide +kernel
theorem dX0_takeFigure_64 : decode cX0_takeFigure 64 = .ok (.aload_n 0, 1) := by decide +kernel
theorem dX0_takeFigure_65 : decode cX0_takeFigure 65 = .ok (.getfield 38, 3) := by decide +kernel
theorem dX0_takeFigure_68 : decode cX0_takeFigure 68 = .ok (.imul, 1) := by decide +kernel
theorem dX0_takeFigure_69 : decode cX0_takeFigure 69 = .ok (.iload_n 1, 1) := by decide +kernel
theorem dX0_takeFigure_70 : decode cX0_takeFigure 70 = .ok (.iadd, 1) := by decide +kernel
theorem dX0_takeFigure_71 : decode cX0_takeFigure 71 = .ok (.putfield 38, 3) := by decide +kernel
theorem dX0_takeFigure_74 : decode cX0_takeFigure 74 = .ok (.goto 16, 3) := by decide +kernel
theorem dX0_takeFigure_77 : decode cX0_takeFigure 77 = .ok (.aload_n 0, 1) := by decide +kernel
theorem dX0_takeFigure_78 : decode cX0_takeFigure 78 = .ok (.bipush 10, 2) := by decide +kernel
theorem dX0_takeFigure_80 : decode cX0_takeFigure 80 = .ok (.aload_n 0, 1) := by decide +kernel
theorem dX0_takeFigure_81 : decode cX0_takeFigure 81 = .ok (.getfield 41, 3) := by decide +kernel
theorem dX0_takeFigure_84 : decode cX0_takeFigure 84 = .ok (.imul, 1) := by decide +kernel
theorem dX0_takeFigure_85 : decode cX0_takeFigure 85 = .ok (.iload_n 1, 1) := by decide +kernel
theorem dX0_takeFigure_86 : decode cX0_takeFigure 86 = .ok (.iadd, 1) := by decide +kernel
theorem dX0_takeFigure_87 : decode cX0_takeFigure 87 = .ok (.putfield 41, 3) := by decide +kernel
theorem dX0_takeFigure_90 : decode cX0_takeFigure 90 = .ok (.iconst 1, 1) := by decide +kernel
theorem dX0_takeFigure_91 : decode cX0_takeFigure 91 = .ok (.ireturn, 1) := by decide +kernel
theorem dX0_numbersOf_0 : decode cX0_numbersOf 0 = .ok (.iload_n 0, 1) := by decide +kernel
theorem dX0_numbersOf_1 : decode cX0_numbersOf 1 = .ok (.lookupswitch 47 #[(100, 43), (109, 45), (112, 43), (116, 45)], 43) := by decide +kernel
theorem dX0_numbersOf_44 : decode cX0_numbersOf 44 = .ok (.iconst 2, 1) := by decide +kernel
theorem dX0_numbersOf_45 : decode cX0_numbersOf 45 = .ok (.ireturn, 1) := by decide +kernel
theorem dX0_numbersOf_46 : decode cX0_numbersOf 46 = .ok (.iconst 1, 1) := by decide +kernel
theorem dX0_numbersOf_47 : decode cX0_numbersOf 47 = .ok (.ireturn, 1) := by decide +kernel
theorem dX0_numbersOf_48 : decode cX0_numbersOf 48 = .ok (.iconst 0, 1) := by decide +kernel
theorem dX0_numbersOf_49 : decode cX0_numbersOf 49 = .ok (.ireturn, 1) := by decide +kernel
theorem dX1_init_0 : decode cX1_init 0 = .ok (.aload_n 0, 1) := by decide +kernel
theorem dX1_init_1 : decode cX1_init 1 = .ok (.invokespecial 3, 3) := by decide +kernel
theorem dX1_init_4 : decode cX1_init 4 = .ok (.aload_n 0, 1) := by decide +kernel
theorem dX1_init_5 : decode cX1_init 5 = .ok (.bipush 16, 2) := by decide +kernel
theorem dX1_init_7 : decode cX1_init 7 = .ok (.putfield 9, 3) := by decide +kernel
theorem dX1_init_10 : decode cX1_init 10 = .ok (.aload_n 0, 1) := by decide +kernel
theorem dX1_init_11 : decode cX1_init 11 = .ok (.bipush 64, 2) := by decide +kernel
theorem dX1_init_13 : decode cX1_init 13 = .ok (.newarray .int, 2) := by decide +kernel
theorem dX1_init_15 : decode cX1_init 15 = .ok (.putfield 15, 3) := by decide +kernel
theorem dX1_init_18 : decode cX1_init 18 = .ok (.aload_n 0, 1) := by decide +kernel
theorem dX1_init_19 : decode cX1_init 19 = .ok (.bipush 64, 2) := by decide +kernel
theorem dX1_init_21 : decode cX1_init 21 = .ok (.newarray .int, 2) := by decide +kernel
theorem dX1_init_23 : decode cX1_init 23 = .ok (.putfield 19, 3) := by decide +kernel
theorem dX1_init_26 : decode cX1_init 26 = .ok (.aload_n 0, 1) := by decide +kernel
theorem dX1_init_27 : decode cX1_init 27 = .ok (.bipush 8, 2) := by decide +kernel
theorem dX1_init_29 : decode cX1_init 29 = .ok (.newarray .int, 2) := by decide +kernel
theorem dX1_init_31 : decode cX1_init 31 = .ok (.putfield 22, 3) := by decide +kernel
theorem dX1_init_34 : decode cX1_init 34 = .ok (.aload_n 0, 1) := by decide +kernel
theorem dX1_init_35 : decode cX1_init 35 = .ok (.bipush 8, 2) := by decide +kernel
theorem dX1_init_37 : decode cX1_init 37 = .ok (.newarray .int, 2) := by decide +kernel
theorem dX1_init_39 : decode cX1_init 39 = .ok (.putfield 25, 3) := by decide +kernel
theorem dX1_init_42 : decode cX1_init 42 = .ok (.aload_n 0, 1) := by decide +kernel
theorem dX1_init_43 : decode cX1_init 43 = .ok (.bipush 8, 2) := by decide +kernel
theorem dX1_init_45 : decode cX1_init 45 = .ok (.newarray .int, 2) := by decide +kernel
theorem dX1_init_47 : decode cX1_init 47 = .ok (.putfield 28, 3) := by decide +kernel
theorem dX1_init_50 : decode cX1_init 50 = .ok (.iconst 0, 1) := by decide +kernel
theorem dX1_init_51 : decode cX1_init 51 = .ok (.istore_n 1, 1) := by decide +kernel
theorem dX1_init_52 : decode cX1_init 52 = .ok (.iload_n 1, 1) := by decide +kernel
theorem dX1_init_53 : decode cX1_init 53 = .ok (.bipush 64, 2) := by decide +kernel
theorem dX1_init_55 : decode cX1_init 55 = .ok (.if_icmp .ge 16, 3) := by decide +kernel
theorem dX1_init_58 : decode cX1_init 58 = .ok (.aload_n 0, 1) := by decide +kernel
theorem dX1_init_59 : decode cX1_init 59 = .ok (.getfield 15, 3) := by decide +kernel
theorem dX1_init_62 : decode cX1_init 62 = .ok (.iload_n 1, 1) := by decide +kernel
theorem dX1_init_63 : decode cX1_init 63 = .ok (.iconst (-1), 1) := by decide +kernel
theorem dX1_init_64 : decode cX1_init 64 = .ok (.iastore, 1) := by decide +kernel
theorem dX1_init_65 : decode cX1_init 65 = .ok (.iinc 1 1, 3) := by decide +kernel
theorem dX1_init_68 : decode cX1_init 68 = .ok (.goto (-16), 3) := by decide +kernel
theorem dX1_init_71 : decode cX1_init 71 = .ok (.return_, 1) := by decide +kernel
theorem dX1_copyOf_0 : decode cX1_copyOf 0 = .ok (.aload_n 0, 1) := by decide +kernel
theorem dX1_copyOf_1 : decode cX1_copyOf 1 = .ok (.aload_n 1, 1) := by decide +kernel
theorem dX1_copyOf_2 : decode cX1_copyOf 2 = .ok (.getfield 9, 3) := by decide +kernel
theorem dX1_copyOf_5 : decode cX1_copyOf 5 = .ok (.putfield 9, 3) := by decide +kernel
theorem dX1_copyOf_8 : decode cX1_copyOf 8 = .ok (.aload_n 0, 1) := by decide +kernel
theorem dX1_copyOf_9 : decode cX1_copyOf 9 = .ok (.aload_n 1, 1) := by decide +kernel
theorem dX1_copyOf_10 : decode cX1_copyOf 10 = .ok (.getfield 31, 3) := by decide +kernel
theorem dX1_copyOf_13 : decode cX1_copyOf 13 = .ok (.putfield 31, 3) := by decide +kernel
theorem dX1_copyOf_16 : decode cX1_copyOf 16 = .ok (.aload_n 0, 1) := by decide +kernel
theorem dX1_copyOf_17 : decode cX1_copyOf 17 = .ok (.aload_n 1, 1) := by decide +kernel
theorem dX1_copyOf_18 : decode cX1_copyOf 18 = .ok (.getfield 34, 3) := by decide +kernel
theorem dX1_copyOf_21 : decode cX1_copyOf 21 = .ok (.putfield 34, 3) := by decide +kernel
theorem dX1_copyOf_24 : decode cX1_copyOf 24 = .ok (.aload_n 0, 1) := by decide +kernel
theorem dX1_copyOf_25 : decode cX1_copyOf 25 = .ok (.aload_n 1, 1) := by decide +kernel
theorem dX1_copyOf_26 : decode cX1_copyOf 26 = .ok (.getfield 37, 3) := by decide +kernel
theorem dX1_copyOf_29 : decode cX1_copyOf 29 = .ok (.putfield 37, 3) := by decide +kernel
theorem dX1_copyOf_32 : decode cX1_copyOf 32 = .ok (.aload_n 0, 1) := by decide +kernel
theorem dX1_copyOf_33 : decode cX1_copyOf 33 = .ok (.aload_n 1, 1) := by decide +kernel
theorem dX1_copyOf_34 : decode cX1_copyOf 34 = .ok (.getfield 40, 3) := by decide +kernel
theorem dX1_copyOf_37 : decode cX1_copyOf 37 = .ok (.putfield 40, 3) := by decide +kernel
theorem dX1_copyOf_40 : decode cX1_copyOf 40 = .ok (.aload_n 0, 1) := by decide +kernel
theorem dX1_copyOf_41 : decode cX1_copyOf 41 = .ok (.aload_n 1, 1) := by decide +kernel
theorem dX1_copyOf_42 : decode cX1_copyOf 42 = .ok (.getfield 43, 3) := by decide +kernel
theorem dX1_copyOf_45 : decode cX1_copyOf 45 = .ok (.putfield 43, 3) := by decide +kernel
theorem dX1_copyOf_48 : decode cX1_copyOf 48 = .ok (.aload_n 0, 1) := by decide +kernel
theorem dX1_copyOf_49 : decode cX1_copyOf 49 = .ok (.aload_n 1, 1) := by decide +kernel
theorem dX1_copyOf_50 : decode cX1_copyOf 50 = .ok (.getfield 46, 3) := by decide +kernel
theorem dX1_copyOf_53 : decode cX1_copyOf 53 = .ok (.putfield 46, 3) := by decide +kernel
theorem dX1_copyOf_56 : decode cX1_copyOf 56 = .ok (.iconst 0, 1) := by decide +kernel
theorem dX1_copyOf_57 : decode cX1_copyOf 57 = .ok (.istore_n 2, 1) := by decide +kernel
theorem dX1_copyOf_58 : decode cX1_copyOf 58 = .ok (.iload_n 2, 1) := by decide +kernel
theorem dX1_copyOf_59 : decode cX1_copyOf 59 = .ok (.bipush 64, 2) := by decide +kernel
theorem dX1_copyOf_61 : decode cX1_copyOf 61 = .ok (.if_icmp .ge 33, 3) := by decide +kernel
theorem dX1_copyOf_64 : decode cX1_copyOf 64 = .ok (.aload_n 0, 1) := by decide +kernel
theorem dX1_copyOf_65 : decode cX1_copyOf 65 = .ok (.getfield 15, 3) := by decide +kernel
theorem dX1_copyOf_68 : decode cX1_copyOf 68 = .ok (.iload_n 2, 1) := by decide +kernel
theorem dX1_copyOf_69 : decode cX1_copyOf 69 = .ok (.aload_n 1, 1) := by decide +kernel
theorem dX1_copyOf_70 : decode cX1_copyOf 70 = .ok (.getfield 15, 3) := by decide +kernel
theorem dX1_copyOf_73 : decode cX1_copyOf 73 = .ok (.iload_n 2, 1) := by decide +kernel
theorem dX1_copyOf_74 : decode cX1_copyOf 74 = .ok (.iaload, 1) := by decide +kernel
theorem dX1_copyOf_75 : decode cX1_copyOf 75 = .ok (.iastore, 1) := by decide +kernel
theorem dX1_copyOf_76 : decode cX1_copyOf 76 = .ok (.aload_n 0, 1) := by decide +kernel
theorem dX1_copyOf_77 : decode cX1_copyOf 77 = .ok (.getfield 19, 3) := by decide +kernel
theorem dX1_copyOf_80 : decode cX1_copyOf 80 = .ok (.iload_n 2, 1) := by decide +kernel
theorem dX1_copyOf_81 : decode cX1_copyOf 81 = .ok (.aload_n 1, 1) := by decide +kernel
theorem dX1_copyOf_82 : decode cX1_copyOf 82 = .ok (.getfield 19, 3) := by decide +kernel
theorem dX1_copyOf_85 : decode cX1_copyOf 85 = .ok (.iload_n 2, 1) := by decide +kernel
theorem dX1_copyOf_86 : decode cX1_copyOf 86 = .ok (.iaload, 1) := by decide +kernel
theorem dX1_copyOf_87 : decode cX1_copyOf 87 = .ok (.iastore, 1) := by decide +kernel
theorem dX1_copyOf_88 : decode cX1_copyOf 88 = .ok (.iinc 2 1, 3) := by decide +kernel
theorem dX1_copyOf_91 : decode cX1_copyOf 91 = .ok (.goto (-33), 3) := by decide +kernel
theorem dX1_copyOf_94 : decode cX1_copyOf 94 = .ok (.iconst 0, 1) := by decide +kernel
theorem dX1_copyOf_95 : decode cX1_copyOf 95 = .ok (.istore_n 2, 1) := by decide +kernel
theorem dX1_copyOf_96 : decode cX1_copyOf 96 = .ok (.iload_n 2, 1) := by decide +kernel
theorem dX1_copyOf_97 : decode cX1_copyOf 97 = .ok (.bipush 8, 2) := by decide +kernel
theorem dX1_copyOf_99 : decode cX1_copyOf 99 = .ok (.if_icmp .ge 45, 3) := by decide +kernel
theorem dX1_copyOf_102 : decode cX1_copyOf 102 = .ok (.aload_n 0, 1) := by decide +kernel
theorem dX1_copyOf_103 : decode cX1_copyOf 103 = .ok (.getfield 22, 3) := by decide +kernel
theorem dX1_copyOf_106 : decode cX1_copyOf 106 = .ok (.iload_n 2, 1) := by decide +kernel
theorem dX1_copyOf_107 : decode cX1_copyOf 107 = .ok (.aload_n 1, 1) := by decide +kernel
theorem dX1_copyOf_108 : decode cX1_copyOf 108 = .ok (.getfield 22, 3) := by decide +kernel
theorem dX1_copyOf_111 : decode cX1_copyOf 111 = .ok (.iload_n 2, 1) := by decide +kernel
theorem dX1_copyOf_112 : decode cX1_copyOf 112 = .ok (.iaload, 1) := by decide +kernel
theorem dX1_copyOf_113 : decode cX1_copyOf 113 = .ok (.iastore, 1) := by decide +kernel
theorem dX1_copyOf_114 : decode cX1_copyOf 114 = .ok (.aload_n 0, 1) := by decide +kernel
theorem dX1_copyOf_115 : decode cX1_copyOf 115 = .ok (.getfield 25, 3) := by decide +kernel
theorem dX1_copyOf_118 : decode cX1_copyOf 118 = .ok (.iload_n 2, 1) := by decide +kernel
theorem dX1_copyOf_119 : decode cX1_copyOf 119 = .ok (.aload_n 1, 1) := by decide +kernel
theorem dX1_copyOf_120 : decode cX1_copyOf 120 = .ok (.getfield 25, 3) := by decide +kernel
theorem dX1_copyOf_123 : decode cX1_copyOf 123 = .ok (.iload_n 2, 1) := by decide +kernel
theorem dX1_copyOf_124 : decode cX1_copyOf 124 = .ok (.iaload, 1) := by decide +kernel
theorem dX1_copyOf_125 : decode cX1_copyOf 125 = .ok (.iastore, 1) := by decide +kernel
theorem dX1_copyOf_126 : decode cX1_copyOf 126 = .ok (.aload_n 0, 1) := by decide +kernel
theorem dX1_copyOf_127 : decode cX1_copyOf 127 = .ok (.getfield 28, 3) := by decide +kernel
theorem dX1_copyOf_130 : decode cX1_copyOf 130 = .ok (.iload_n 2, 1) := by decide +kernel
theorem dX1_copyOf_131 : decode cX1_copyOf 131 = .ok (.aload_n 1, 1) := by decide +kernel
theorem dX1_copyOf_132 : decode cX1_copyOf 132 = .ok (.getfield 28, 3) := by decide +kernel
theorem dX1_copyOf_135 : decode cX1_copyOf 135 = .ok (.iload_n 2, 1) := by decide +kernel
theorem dX1_copyOf_136 : decode cX1_copyOf 136 = .ok (.iaload, 1) := by decide +kernel
theorem dX1_copyOf_137 : decode cX1_copyOf 137 = .ok (.iastore, 1) := by decide +kernel
theorem dX1_copyOf_138 : decode cX1_copyOf 138 = .ok (.iinc 2 1, 3) := by decide +kernel
theorem dX1_copyOf_141 : decode cX1_copyOf 141 = .ok (.goto (-45), 3) := by decide +kernel
theorem dX1_copyOf_144 : decode cX1_copyOf 144 = .ok (.return_, 1) := by decide +kernel
theorem dX1_keyIn_0 : decode cX1_keyIn 0 = .ok (.iload_n 1, 1) := by decide +kernel
theorem dX1_keyIn_1 : decode cX1_keyIn 1 = .ok (.ifCond .lt 21, 3) := by decide +kernel
theorem dX1_keyIn_4 : decode cX1_keyIn 4 = .ok (.iload_n 1, 1) := by decide +kernel
theorem dX1_keyIn_5 : decode cX1_keyIn 5 = .ok (.aload_n 0, 1) := by decide +kernel
theorem dX1_keyIn_6 : decode cX1_keyIn 6 = .ok (.getfield 15, 3) := by decide +kernel
theorem dX1_keyIn_9 : decode cX1_keyIn 9 = .ok (.arraylength, 1) := by decide +kernel
theorem dX1_keyIn_10 : decode cX1_keyIn 10 = .ok (.if_icmp .ge 12, 3) := by decide +kernel
theorem dX1_keyIn_13 : decode cX1_keyIn 13 = .ok (.aload_n 0, 1) := by decide +kernel
theorem dX1_keyIn_14 : decode cX1_keyIn 14 = .ok (.getfield 15, 3) := by decide +kernel
theorem dX1_keyIn_17 : decode cX1_keyIn 17 = .ok (.iload_n 1, 1) := by decide +kernel
theorem dX1_keyIn_18 : decode cX1_keyIn 18 = .ok (.iaload, 1) := by decide +kernel
theorem dX1_keyIn_19 : decode cX1_keyIn 19 = .ok (.goto 4, 3) := by decide +kernel
theorem dX1_keyIn_22 : decode cX1_keyIn 22 = .ok (.iconst (-1), 1) := by decide +kernel
theorem dX1_keyIn_23 : decode cX1_keyIn 23 = .ok (.ireturn, 1) := by decide +kernel
theorem dX1_valueIn_0 : decode cX1_valueIn 0 = .ok (.iload_n 1, 1) := by decide +kernel
theorem dX1_valueIn_1 : decode cX1_valueIn 1 = .ok (.ifCond .lt 21, 3) := by decide +kernel
theorem dX1_valueIn_4 : decode cX1_valueIn 4 = .ok (.iload_n 1, 1) := by decide +kernel
theorem dX1_valueIn_5 : decode cX1_valueIn 5 = .ok (.aload_n 0, 1) := by decide +kernel
theorem dX1_valueIn_6 : decode cX1_valueIn 6 = .ok (.getfield 19, 3) := by decide +kernel
theorem dX1_valueIn_9 : decode cX1_valueIn 9 = .ok (.arraylength, 1) := by decide +kernel
theorem dX1_valueIn_10 : decode cX1_valueIn 10 = .ok (.if_icmp .ge 12, 3) := by decide +kernel
theorem dX1_valueIn_13 : decode cX1_valueIn 13 = .ok (.aload_n 0, 1) := by decide +kernel
theorem dX1_valueIn_14 : decode cX1_valueIn 14 = .ok (.getfield 19, 3) := by decide +kernel
theorem dX1_valueIn_17 : decode cX1_valueIn 17 = .ok (.iload_n 1, 1) := by decide +kernel
theorem dX1_valueIn_18 : decode cX1_valueIn 18 = .ok (.iaload, 1) := by decide +kernel
theorem dX1_valueIn_19 : decode cX1_valueIn 19 = .ok (.goto 4, 3) := by decide +kernel
theorem dX1_valueIn_22 : decode cX1_valueIn 22 = .ok (.iconst (-1), 1) := by decide +kernel
theorem dX1_valueIn_23 : decode cX1_valueIn 23 = .ok (.ireturn, 1) := by decide +kernel
theorem dX1_fill_0 : decode cX1_fill 0 = .ok (.iload_n 1, 1) := by decide +kernel
theorem dX1_fill_1 : decode cX1_fill 1 = .ok (.ifCond .lt 35, 3) := by decide +kernel
theorem dX1_fill_4 : decode cX1_fill 4 = .ok (.iload_n 1, 1) := by decide +kernel
theorem dX1_fill_5 : decode cX1_fill 5 = .ok (.aload_n 0, 1) := by decide +kernel
theorem dX1_fill_6 : decode cX1_fill 6 = .ok (.getfield 15, 3) := by decide +kernel
theorem dX1_fill_9 : decode cX1_fill 9 = .ok (.arraylength, 1) := by decide +kernel
theorem dX1_fill_10 : decode cX1_fill 10 = .ok (.if_icmp .ge 26, 3) := by decide +kernel
theorem dX1_fill_13 : decode cX1_fill 13 = .ok (.iload_n 1, 1) := by decide +kernel
theorem dX1_fill_14 : decode cX1_fill 14 = .ok (.aload_n 0, 1) := by decide +kernel
theorem dX1_fill_15 : decode cX1_fill 15 = .ok (.getfield 19, 3) := by decide +kernel
theorem dX1_fill_18 : decode cX1_fill 18 = .ok (.arraylength, 1) := by decide +kernel
theorem dX1_fill_19 : decode cX1_fill 19 = .ok (.if_icmp .ge 17, 3) := by decide +kernel
theorem dX1_fill_22 : decode cX1_fill 22 = .ok (.aload_n 0, 1) := by decide +kernel
theorem dX1_fill_23 : decode cX1_fill 23 = .ok (.getfield 15, 3) := by decide +kernel
theorem dX1_fill_26 : decode cX1_fill 26 = .ok (.iload_n 1, 1) := by decide +kernel
theorem dX1_fill_27 : decode cX1_fill 27 = .ok (.iload_n 2, 1) := by decide +kernel
theorem dX1_fill_28 : decode cX1_fill 28 = .ok (.iastore, 1) := by decide +kernel
theorem dX1_fill_29 : decode cX1_fill 29 = .ok (.aload_n 0, 1) := by decide +kernel
theorem dX1_fill_30 : decode cX1_fill 30 = .ok (.getfield 19, 3) := by decide +kernel
theorem dX1_fill_33 : decode cX1_fill 33 = .ok (.iload_n 1, 1) := by decide +kernel
theorem dX1_fill_34 : decode cX1_fill 34 = .ok (.iload_n 3, 1) := by decide +kernel
theorem dX1_fill_35 : decode cX1_fill 35 = .ok (.iastore, 1) := by decide +kernel
theorem dX1_fill_36 : decode cX1_fill 36 = .ok (.return_, 1) := by decide +kernel
theorem dX1_cellOf_0 : decode cX1_cellOf 0 = .ok (.iconst 0, 1) := by decide +kernel
theorem dX1_cellOf_1 : decode cX1_cellOf 1 = .ok (.istore_n 2, 1) := by decide +kernel
theorem dX1_cellOf_2 : decode cX1_cellOf 2 = .ok (.iload_n 2, 1) := by decide +kernel
theorem dX1_cellOf_3 : decode cX1_cellOf 3 = .ok (.aload_n 0, 1) := by decide +kernel
theorem dX1_cellOf_4 : decode cX1_cellOf 4 = .ok (.getfield 9, 3) := by decide +kernel
theorem dX1_cellOf_7 : decode cX1_cellOf 7 = .ok (.if_icmp .ge 20, 3) := by decide +kernel
theorem dX1_cellOf_10 : decode cX1_cellOf 10 = .ok (.aload_n 0, 1) := by decide +kernel
theorem dX1_cellOf_11 : decode cX1_cellOf 11 = .ok (.iload_n 2, 1) := by decide +kernel
theorem dX1_cellOf_12 : decode cX1_cellOf 12 = .ok (.invokevirtual 49, 3) := by decide +kernel
theorem dX1_cellOf_15 : decode cX1_cellOf 15 = .ok (.iload_n 1, 1) := by decide +kernel
theorem dX1_cellOf_16 : decode cX1_cellOf 16 = .ok (.if_icmp .ne 5, 3) := by decide +kernel
theorem dX1_cellOf_19 : decode cX1_cellOf 19 = .ok (.iload_n 2, 1) := by decide +kernel
theorem dX1_cellOf_20 : decode cX1_cellOf 20 = .ok (.ireturn, 1) := by decide +kernel
theorem dX1_cellOf_21 : decode cX1_cellOf 21 = .ok (.iinc 2 1, 3) := by decide +kernel
theorem dX1_cellOf_24 : decode cX1_cellOf 24 = .ok (.goto (-22), 3) := by decide +kernel
theorem dX1_cellOf_27 : decode cX1_cellOf 27 = .ok (.iconst (-1), 1) := by decide +kernel
theorem dX1_cellOf_28 : decode cX1_cellOf 28 = .ok (.ireturn, 1) := by decide +kernel
theorem dX1_cellNumber_0 : decode cX1_cellNumber 0 = .ok (.iconst 0, 1) := by decide +kernel
theorem dX1_cellNumber_1 : decode cX1_cellNumber 1 = .ok (.istore_n 2, 1) := by decide +kernel
theorem dX1_cellNumber_2 : decode cX1_cellNumber 2 = .ok (.iconst 0, 1) := by decide +kernel
theorem dX1_cellNumber_3 : decode cX1_cellNumber 3 = .ok (.istore_n 3, 1) := by decide +kernel
theorem dX1_cellNumber_4 : decode cX1_cellNumber 4 = .ok (.iload_n 3, 1) := by decide +kernel
theorem dX1_cellNumber_5 : decode cX1_cellNumber 5 = .ok (.aload_n 0, 1) := by decide +kernel
theorem dX1_cellNumber_6 : decode cX1_cellNumber 6 = .ok (.getfield 9, 3) := by decide +kernel
theorem dX1_cellNumber_9 : decode cX1_cellNumber 9 = .ok (.if_icmp .ge 31, 3) := by decide +kernel
theorem dX1_cellNumber_12 : decode cX1_cellNumber 12 = .ok (.aload_n 0, 1) := by decide +kernel
theorem dX1_cellNumber_13 : decode cX1_cellNumber 13 = .ok (.iload_n 3, 1) := by decide +kernel
theorem dX1_cellNumber_14 : decode cX1_cellNumber 14 = .ok (.invokevirtual 49, 3) := by decide +kernel
theorem dX1_cellNumber_17 : decode cX1_cellNumber 17 = .ok (.iconst (-1), 1) := by decide +kernel
theorem dX1_cellNumber_18 : decode cX1_cellNumber 18 = .ok (.if_icmp .ne 6, 3) := by decide +kernel
theorem dX1_cellNumber_21 : decode cX1_cellNumber 21 = .ok (.goto 13, 3) := by decide +kernel
theorem dX1_cellNumber_24 : decode cX1_cellNumber 24 = .ok (.iload_n 2, 1) := by decide +kernel
theorem dX1_cellNumber_25 : decode cX1_cellNumber 25 = .ok (.iload_n 1, 1) := by decide +kernel
theorem dX1_cellNumber_26 : decode cX1_cellNumber 26 = .ok (.if_icmp .ne 5, 3) := by decide +kernel
theorem dX1_cellNumber_29 : decode cX1_cellNumber 29 = .ok (.iload_n 3, 1) := by decide +kernel
theorem dX1_cellNumber_30 : decode cX1_cellNumber 30 = .ok (.ireturn, 1) := by decide +kernel
theorem dX1_cellNumber_31 : decode cX1_cellNumber 31 = .ok (.iinc 2 1, 3) := by decide +kernel
theorem dX1_cellNumber_34 : decode cX1_cellNumber 34 = .ok (.iinc 3 1, 3) := by decide +kernel
theorem dX1_cellNumber_37 : decode cX1_cellNumber 37 = .ok (.goto (-33), 3) := by decide +kernel
theorem dX1_cellNumber_40 : decode cX1_cellNumber 40 = .ok (.iconst (-1), 1) := by decide +kernel
theorem dX1_cellNumber_41 : decode cX1_cellNumber 41 = .ok (.ireturn, 1) := by decide +kernel
theorem dX1_keyNumber_0 : decode cX1_keyNumber 0 = .ok (.aload_n 0, 1) := by decide +kernel
theorem dX1_keyNumber_1 : decode cX1_keyNumber 1 = .ok (.aload_n 0, 1) := by decide +kernel
theorem dX1_keyNumber_2 : decode cX1_keyNumber 2 = .ok (.iload_n 1, 1) := by decide +kernel
theorem dX1_keyNumber_3 : decode cX1_keyNumber 3 = .ok (.invokevirtual 53, 3) := by decide +kernel
theorem dX1_keyNumber_6 : decode cX1_keyNumber 6 = .ok (.invokevirtual 49, 3) := by decide +kernel
theorem dX1_keyNumber_9 : decode cX1_keyNumber 9 = .ok (.ireturn, 1) := by decide +kernel
theorem dX1_keysBelow_0 : decode cX1_keysBelow 0 = .ok (.iconst 0, 1) := by decide +kernel
theorem dX1_keysBelow_1 : decode cX1_keysBelow 1 = .ok (.istore_n 2, 1) := by decide +kernel
theorem dX1_keysBelow_2 : decode cX1_keysBelow 2 = .ok (.iconst 0, 1) := by decide +kernel
theorem dX1_keysBelow_3 : decode cX1_keysBelow 3 = .ok (.istore_n 3, 1) := by decide +kernel
theorem dX1_keysBelow_4 : decode cX1_keysBelow 4 = .ok (.iload_n 3, 1) := by decide +kernel
theorem dX1_keysBelow_5 : decode cX1_keysBelow 5 = .ok (.aload_n 0, 1) := by decide +kernel
theorem dX1_keysBelow_6 : decode cX1_keysBelow 6 = .ok (.getfield 9, 3) := by decide +kernel
theorem dX1_keysBelow_9 : decode cX1_keysBelow 9 = .ok (.if_icmp .ge 30, 3) := by decide +kernel
theorem dX1_keysBelow_12 : decode cX1_keysBelow 12 = .ok (.aload_n 0, 1) := by decide +kernel
theorem dX1_keysBelow_13 : decode cX1_keysBelow 13 = .ok (.iload_n 3, 1) := by decide +kernel
theorem dX1_keysBelow_14 : decode cX1_keysBelow 14 = .ok (.invokevirtual 49, 3) := by decide +kernel
theorem dX1_keysBelow_17 : decode cX1_keysBelow 17 = .ok (.iconst (-1), 1) := by decide +kernel
theorem dX1_keysBelow_18 : decode cX1_keysBelow 18 = .ok (.if_icmp .eq 15, 3) := by decide +kernel
theorem dX1_keysBelow_21 : decode cX1_keysBelow 21 = .ok (.aload_n 0, 1) := by decide +kernel
theorem dX1_keysBelow_22 : decode cX1_keysBelow 22 = .ok (.iload_n 3, 1) := by decide +kernel
theorem dX1_keysBelow_23 : decode cX1_keysBelow 23 = .ok (.invokevirtual 49, 3) := by decide +kernel
theorem dX1_keysBelow_26 : decode cX1_keysBelow 26 = .ok (.iload_n 1, 1) := by decide +kernel
theorem dX1_keysBelow_27 : decode cX1_keysBelow 27 = .ok (.if_icmp .ge 6, 3) := by decide +kernel
theorem dX1_keysBelow_30 : decode cX1_keysBelow 30 = .ok (.iinc 2 1, 3) := by decide +kernel
theorem dX1_keysBelow_33 : decode cX1_keysBelow 33 = .ok (.iinc 3 1, 3) := by decide +kernel
theorem dX1_keysBelow_36 : decode cX1_keysBelow 36 = .ok (.goto (-32), 3) := by decide +kernel
theorem dX1_keysBelow_39 : decode cX1_keysBelow 39 = .ok (.iload_n 2, 1) := by decide +kernel
theorem dX1_keysBelow_40 : decode cX1_keysBelow 40 = .ok (.ireturn, 1) := by decide +kernel
theorem dX1_keysIn_0 : decode cX1_keysIn 0 = .ok (.iconst 0, 1) := by decide +kernel
theorem dX1_keysIn_1 : decode cX1_keysIn 1 = .ok (.istore_n 3, 1) := by decide +kernel
theorem dX1_keysIn_2 : decode cX1_keysIn 2 = .ok (.iload_n 1, 1) := by decide +kernel
theorem dX1_keysIn_3 : decode cX1_keysIn 3 = .ok (.istore 4, 2) := by decide +kernel
theorem dX1_keysIn_5 : decode cX1_keysIn 5 = .ok (.iload 4, 2) := by decide +kernel
theorem dX1_keysIn_7 : decode cX1_keysIn 7 = .ok (.iload_n 1, 1) := by decide +kernel
theorem dX1_keysIn_8 : decode cX1_keysIn 8 = .ok (.iload_n 2, 1) := by decide +kernel
theorem dX1_keysIn_9 : decode cX1_keysIn 9 = .ok (.iadd, 1) := by decide +kernel
theorem dX1_keysIn_10 : decode cX1_keysIn 10 = .ok (.if_icmp .ge 22, 3) := by decide +kernel
theorem dX1_keysIn_13 : decode cX1_keysIn 13 = .ok (.aload_n 0, 1) := by decide +kernel
theorem dX1_keysIn_14 : decode cX1_keysIn 14 = .ok (.iload 4, 2) := by decide +kernel
theorem dX1_keysIn_16 : decode cX1_keysIn 16 = .ok (.invokevirtual 49, 3) := by decide +kernel
theorem dX1_keysIn_19 : decode cX1_keysIn 19 = .ok (.iconst (-1), 1) := by decide +kernel
theorem dX1_keysIn_20 : decode cX1_keysIn 20 = .ok (.if_icmp .eq 6, 3) := by decide +kernel
theorem dX1_keysIn_23 : decode cX1_keysIn 23 = .ok (.iinc 3 1, 3) := by decide +kernel
theorem dX1_keysIn_26 : decode cX1_keysIn 26 = .ok (.iinc 4 1, 3) := by decide +kernel
theorem dX1_keysIn_29 : decode cX1_keysIn 29 = .ok (.goto (-24), 3) := by decide +kernel
theorem dX1_keysIn_32 : decode cX1_keysIn 32 = .ok (.iload_n 3, 1) := by decide +kernel
theorem dX1_keysIn_33 : decode cX1_keysIn 33 = .ok (.ireturn, 1) := by decide +kernel
theorem dX1_valuesFrom_0 : decode cX1_valuesFrom 0 = .ok (.iconst 0, 1) := by decide +kernel
theorem dX1_valuesFrom_1 : decode cX1_valuesFrom 1 = .ok (.istore_n 3, 1) := by decide +kernel
theorem dX1_valuesFrom_2 : decode cX1_valuesFrom 2 = .ok (.iconst 0, 1) := by decide +kernel
theorem dX1_valuesFrom_3 : decode cX1_valuesFrom 3 = .ok (.istore 4, 2) := by decide +kernel
theorem dX1_valuesFrom_5 : decode cX1_valuesFrom 5 = .ok (.iload 4, 2) := by decide +kernel
theorem dX1_valuesFrom_7 : decode cX1_valuesFrom 7 = .ok (.aload_n 0, 1) := by decide +kernel
theorem dX1_valuesFrom_8 : decode cX1_valuesFrom 8 = .ok (.getfield 9, 3) := by decide +kernel
theorem dX1_valuesFrom_11 : decode cX1_valuesFrom 11 = .ok (.if_icmp .ge 38, 3) := by decide +kernel
theorem dX1_valuesFrom_14 : decode cX1_valuesFrom 14 = .ok (.aload_n 0, 1) := by decide +kernel
theorem dX1_valuesFrom_15 : decode cX1_valuesFrom 15 = .ok (.iload 4, 2) := by decide +kernel
theorem dX1_valuesFrom_17 : decode cX1_valuesFrom 17 = .ok (.invokevirtual 49, 3) := by decide +kernel
theorem dX1_valuesFrom_20 : decode cX1_valuesFrom 20 = .ok (.iload_n 1, 1) := by decide +kernel
theorem dX1_valuesFrom_21 : decode cX1_valuesFrom 21 = .ok (.if_icmp .lt 22, 3) := by decide +kernel
theorem dX1_valuesFrom_24 : decode cX1_valuesFrom 24 = .ok (.aload_n 0, 1) := by decide +kernel
theorem dX1_valuesFrom_25 : decode cX1_valuesFrom 25 = .ok (.iload 4, 2) := by decide +kernel
theorem dX1_valuesFrom_27 : decode cX1_valuesFrom 27 = .ok (.invokevirtual 49, 3) := by decide +kernel
theorem dX1_valuesFrom_30 : decode cX1_valuesFrom 30 = .ok (.iload_n 2, 1) := by decide +kernel
theorem dX1_valuesFrom_31 : decode cX1_valuesFrom 31 = .ok (.if_icmp .gt 12, 3) := by decide +kernel
theorem dX1_valuesFrom_34 : decode cX1_valuesFrom 34 = .ok (.iload_n 3, 1) := by decide +kernel
theorem dX1_valuesFrom_35 : decode cX1_valuesFrom 35 = .ok (.aload_n 0, 1) := by decide +kernel
theorem dX1_valuesFrom_36 : decode cX1_valuesFrom 36 = .ok (.iload 4, 2) := by decide +kernel
theorem dX1_valuesFrom_38 : decode cX1_valuesFrom 38 = .ok (.invokevirtual 56, 3) := by decide +kernel
theorem dX1_valuesFrom_41 : decode cX1_valuesFrom 41 = .ok (.iadd, 1) := by decide +kernel
theorem dX1_valuesFrom_42 : decode cX1_valuesFrom 42 = .ok (.istore_n 3, 1) := by decide +kernel
theorem dX1_valuesFrom_43 : decode cX1_valuesFrom 43 = .ok (.iinc 4 1, 3) := by decide +kernel
theorem dX1_valuesFrom_46 : decode cX1_valuesFrom 46 = .ok (.goto (-41), 3) := by decide +kernel
theorem dX1_valuesFrom_49 : decode cX1_valuesFrom 49 = .ok (.iload_n 3, 1) := by decide +kernel
theorem dX1_valuesFrom_50 : decode cX1_valuesFrom 50 = .ok (.ireturn, 1) := by decide +kernel
theorem dX1_cellsRead_0 : decode cX1_cellsRead 0 = .ok (.aload_n 0, 1) := by decide +kernel
theorem dX1_cellsRead_1 : decode cX1_cellsRead 1 = .ok (.iload_n 1, 1) := by decide +kernel
theorem dX1_cellsRead_2 : decode cX1_cellsRead 2 = .ok (.invokevirtual 59, 3) := by decide +kernel
theorem dX1_cellsRead_5 : decode cX1_cellsRead 5 = .ok (.istore_n 3, 1) := by decide +kernel
theorem dX1_cellsRead_6 : decode cX1_cellsRead 6 = .ok (.aload_n 0, 1) := by decide +kernel
theorem dX1_cellsRead_7 : decode cX1_cellsRead 7 = .ok (.iload_n 2, 1) := by decide +kernel
theorem dX1_cellsRead_8 : decode cX1_cellsRead 8 = .ok (.iconst 1, 1) := by decide +kernel
theorem dX1_cellsRead_9 : decode cX1_cellsRead 9 = .ok (.iadd, 1) := by decide +kernel
theorem dX1_cellsRead_10 : decode cX1_cellsRead 10 = .ok (.invokevirtual 59, 3) := by decide +kernel
theorem dX1_cellsRead_13 : decode cX1_cellsRead 13 = .ok (.istore 4, 2) := by decide +kernel
theorem dX1_cellsRead_15 : decode cX1_cellsRead 15 = .ok (.iload_n 3, 1) := by decide +kernel
theorem dX1_cellsRead_16 : decode cX1_cellsRead 16 = .ok (.iload 4, 2) := by decide +kernel
theorem dX1_cellsRead_18 : decode cX1_cellsRead 18 = .ok (.if_icmp .ne 7, 3) := by decide +kernel
theorem dX1_cellsRead_21 : decode cX1_cellsRead 21 = .ok (.iconst 0, 1) := by decide +kernel
theorem dX1_cellsRead_22 : decode cX1_cellsRead 22 = .ok (.goto 19, 3) := by decide +kernel
theorem dX1_cellsRead_25 : decode cX1_cellsRead 25 = .ok (.aload_n 0, 1) := by decide +kernel
theorem dX1_cellsRead_26 : decode cX1_cellsRead 26 = .ok (.iload 4, 2) := by decide +kernel
theorem dX1_cellsRead_28 : decode cX1_cellsRead 28 = .ok (.iconst 1, 1) := by decide +kernel
theorem dX1_cellsRead_29 : decode cX1_cellsRead 29 = .ok (.isub, 1) := by decide +kernel
theorem dX1_cellsRead_30 : decode cX1_cellsRead 30 = .ok (.invokevirtual 53, 3) := by decide +kernel
theorem dX1_cellsRead_33 : decode cX1_cellsRead 33 = .ok (.aload_n 0, 1) := by decide +kernel
theorem dX1_cellsRead_34 : decode cX1_cellsRead 34 = .ok (.iload_n 3, 1) := by decide +kernel
theorem dX1_cellsRead_35 : decode cX1_cellsRead 35 = .ok (.invokevirtual 53, 3) := by decide +kernel
theorem dX1_cellsRead_38 : decode cX1_cellsRead 38 = .ok (.isub, 1) := by decide +kernel
theorem dX1_cellsRead_39 : decode cX1_cellsRead 39 = .ok (.iconst 1, 1) := by decide +kernel
theorem dX1_cellsRead_40 : decode cX1_cellsRead 40 = .ok (.iadd, 1) := by decide +kernel
theorem dX1_cellsRead_41 : decode cX1_cellsRead 41 = .ok (.ireturn, 1) := by decide +kernel
theorem dX1_leastKeyOf_0 : decode cX1_leastKeyOf 0 = .ok (.iload_n 1, 1) := by decide +kernel
theorem dX1_leastKeyOf_1 : decode cX1_leastKeyOf 1 = .ok (.iconst 4, 1) := by decide +kernel
theorem dX1_leastKeyOf_2 : decode cX1_leastKeyOf 2 = .ok (.imul, 1) := by decide +kernel
theorem dX1_leastKeyOf_3 : decode cX1_leastKeyOf 3 = .ok (.istore_n 2, 1) := by decide +kernel
theorem dX1_leastKeyOf_4 : decode cX1_leastKeyOf 4 = .ok (.iload_n 2, 1) := by decide +kernel
theorem dX1_leastKeyOf_5 : decode cX1_leastKeyOf 5 = .ok (.istore_n 3, 1) := by decide +kernel
theorem dX1_leastKeyOf_6 : decode cX1_leastKeyOf 6 = .ok (.iload_n 3, 1) := by decide +kernel
theorem dX1_leastKeyOf_7 : decode cX1_leastKeyOf 7 = .ok (.iload_n 2, 1) := by decide +kernel
theorem dX1_leastKeyOf_8 : decode cX1_leastKeyOf 8 = .ok (.iconst 4, 1) := by decide +kernel
theorem dX1_leastKeyOf_9 : decode cX1_leastKeyOf 9 = .ok (.iadd, 1) := by decide +kernel
theorem dX1_leastKeyOf_10 : decode cX1_leastKeyOf 10 = .ok (.if_icmp .ge 24, 3) := by decide +kernel
theorem dX1_leastKeyOf_13 : decode cX1_leastKeyOf 13 = .ok (.aload_n 0, 1) := by decide +kernel
theorem dX1_leastKeyOf_14 : decode cX1_leastKeyOf 14 = .ok (.iload_n 3, 1) := by decide +kernel
theorem dX1_leastKeyOf_15 : decode cX1_leastKeyOf 15 = .ok (.invokevirtual 49, 3) := by decide +kernel
theorem dX1_leastKeyOf_18 : decode cX1_leastKeyOf 18 = .ok (.iconst (-1), 1) := by decide +kernel
theorem dX1_leastKeyOf_19 : decode cX1_leastKeyOf 19 = .ok (.if_icmp .eq 9, 3) := by decide +kernel
theorem dX1_leastKeyOf_22 : decode cX1_leastKeyOf 22 = .ok (.aload_n 0, 1) := by decide +kernel
theorem dX1_leastKeyOf_23 : decode cX1_leastKeyOf 23 = .ok (.iload_n 3, 1) := by decide +kernel
theorem dX1_leastKeyOf_24 : decode cX1_leastKeyOf 24 = .ok (.invokevirtual 49, 3) := by decide +kernel
theorem dX1_leastKeyOf_27 : decode cX1_leastKeyOf 27 = .ok (.ireturn, 1) := by decide +kernel
theorem dX1_leastKeyOf_28 : decode cX1_leastKeyOf 28 = .ok (.iinc 3 1, 3) := by decide +kernel
theorem dX1_leastKeyOf_31 : decode cX1_leastKeyOf 31 = .ok (.goto (-25), 3) := by decide +kernel
theorem dX1_leastKeyOf_34 : decode cX1_leastKeyOf 34 = .ok (.iconst (-1), 1) := by decide +kernel
theorem dX1_leastKeyOf_35 : decode cX1_leastKeyOf 35 = .ok (.ireturn, 1) := by decide +kernel
theorem dX1_top_0 : decode cX1_top 0 = .ok (.aload_n 0, 1) := by decide +kernel
theorem dX1_top_1 : decode cX1_top 1 = .ok (.getfield 9, 3) := by decide +kernel
theorem dX1_top_4 : decode cX1_top 4 = .ok (.bipush 16, 2) := by decide +kernel
theorem dX1_top_6 : decode cX1_top 6 = .ok (.if_icmp .ne 5, 3) := by decide +kernel
theorem dX1_top_9 : decode cX1_top 9 = .ok (.iconst 2, 1) := by decide +kernel
theorem dX1_top_10 : decode cX1_top 10 = .ok (.ireturn, 1) := by decide +kernel
theorem dX1_top_11 : decode cX1_top 11 = .ok (.aload_n 0, 1) := by decide +kernel
theorem dX1_top_12 : decode cX1_top 12 = .ok (.getfield 9, 3) := by decide +kernel
theorem dX1_top_15 : decode cX1_top 15 = .ok (.bipush 64, 2) := by decide +kernel
theorem dX1_top_17 : decode cX1_top 17 = .ok (.if_icmp .ne 7, 3) := by decide +kernel
theorem dX1_top_20 : decode cX1_top 20 = .ok (.iconst 4, 1) := by decide +kernel
theorem dX1_top_21 : decode cX1_top 21 = .ok (.goto 4, 3) := by decide +kernel
theorem dX1_top_24 : decode cX1_top 24 = .ok (.iconst 3, 1) := by decide +kernel
theorem dX1_top_25 : decode cX1_top 25 = .ok (.ireturn, 1) := by decide +kernel
theorem dX1_most_0 : decode cX1_most 0 = .ok (.iload_n 1, 1) := by decide +kernel
theorem dX1_most_1 : decode cX1_most 1 = .ok (.invokestatic 62, 3) := by decide +kernel
theorem dX1_most_4 : decode cX1_most 4 = .ok (.bipush 100, 2) := by decide +kernel
theorem dX1_most_6 : decode cX1_most 6 = .ok (.bipush 25, 2) := by decide +kernel
theorem dX1_most_8 : decode cX1_most 8 = .ok (.iload_n 1, 1) := by decide +kernel
theorem dX1_most_9 : decode cX1_most 9 = .ok (.imul, 1) := by decide +kernel
theorem dX1_most_10 : decode cX1_most 10 = .ok (.aload_n 0, 1) := by decide +kernel
theorem dX1_most_11 : decode cX1_most 11 = .ok (.invokevirtual 65, 3) := by decide +kernel
theorem dX1_most_14 : decode cX1_most 14 = .ok (.idiv, 1) := by decide +kernel
theorem dX1_most_15 : decode cX1_most 15 = .ok (.isub, 1) := by decide +kernel
theorem dX1_most_16 : decode cX1_most 16 = .ok (.imul, 1) := by decide +kernel
theorem dX1_most_17 : decode cX1_most 17 = .ok (.bipush 100, 2) := by decide +kernel
theorem dX1_most_19 : decode cX1_most 19 = .ok (.idiv, 1) := by decide +kernel
theorem dX1_most_20 : decode cX1_most 20 = .ok (.ireturn, 1) := by decide +kernel
theorem dX1_least_0 : decode cX1_least 0 = .ok (.iload_n 1, 1) := by decide +kernel
theorem dX1_least_1 : decode cX1_least 1 = .ok (.invokestatic 62, 3) := by decide +kernel
theorem dX1_least_4 : decode cX1_least 4 = .ok (.bipush 25, 2) := by decide +kernel
theorem dX1_least_6 : decode cX1_least 6 = .ok (.iconst 5, 1) := by decide +kernel
theorem dX1_least_7 : decode cX1_least 7 = .ok (.iload_n 1, 1) := by decide +kernel
theorem dX1_least_8 : decode cX1_least 8 = .ok (.imul, 1) := by decide +kernel
theorem dX1_least_9 : decode cX1_least 9 = .ok (.aload_n 0, 1) := by decide +kernel
theorem dX1_least_10 : decode cX1_least 10 = .ok (.invokevirtual 65, 3) := by decide +kernel
theorem dX1_least_13 : decode cX1_least 13 = .ok (.idiv, 1) := by decide +kernel
theorem dX1_least_14 : decode cX1_least 14 = .ok (.iadd, 1) := by decide +kernel
theorem dX1_least_15 : decode cX1_least 15 = .ok (.imul, 1) := by decide +kernel
theorem dX1_least_16 : decode cX1_least 16 = .ok (.bipush 100, 2) := by decide +kernel
theorem dX1_least_18 : decode cX1_least 18 = .ok (.idiv, 1) := by decide +kernel
theorem dX1_least_19 : decode cX1_least 19 = .ok (.ireturn, 1) := by decide +kernel
theorem dX1_logged_0 : decode cX1_logged 0 = .ok (.iload_n 1, 1) := by decide +kernel
theorem dX1_logged_1 : decode cX1_logged 1 = .ok (.aload_n 0, 1) := by decide +kernel
theorem dX1_logged_2 : decode cX1_logged 2 = .ok (.getfield 46, 3) := by decide +kernel
theorem dX1_logged_5 : decode cX1_logged 5 = .ok (.iconst 1, 1) := by decide +kernel
theorem dX1_logged_6 : decode cX1_logged 6 = .ok (.isub, 1) := by decide +kernel
theorem dX1_logged_7 : decode cX1_logged 7 = .ok (.invokestatic 69, 3) := by decide +kernel
theorem dX1_logged_10 : decode cX1_logged 10 = .ok (.ifCond .eq 12, 3) := by decide +kernel
theorem dX1_logged_13 : decode cX1_logged 13 = .ok (.iload_n 1, 1) := by decide +kernel
theorem dX1_logged_14 : decode cX1_logged 14 = .ok (.bipush 7, 2) := by decide +kernel
theorem dX1_logged_16 : decode cX1_logged 16 = .ok (.invokestatic 69, 3) := by decide +kernel
theorem dX1_logged_19 : decode cX1_logged 19 = .ok (.ifCond .ne 5, 3) := by decide +kernel
theorem dX1_logged_22 : decode cX1_logged 22 = .ok (.iconst (-1), 1) := by decide +kernel
theorem dX1_logged_23 : decode cX1_logged 23 = .ok (.ireturn, 1) := by decide +kernel
theorem dX1_logged_24 : decode cX1_logged 24 = .ok (.iload_n 2, 1) := by decide +kernel
theorem dX1_logged_25 : decode cX1_logged 25 = .ok (.ifCond .ne 10, 3) := by decide +kernel
theorem dX1_logged_28 : decode cX1_logged 28 = .ok (.aload_n 0, 1) := by decide +kernel
theorem dX1_logged_29 : decode cX1_logged 29 = .ok (.getfield 22, 3) := by decide +kernel
theorem dX1_logged_32 : decode cX1_logged 32 = .ok (.iload_n 1, 1) := by decide +kernel
theorem dX1_logged_33 : decode cX1_logged 33 = .ok (.iaload, 1) := by decide +kernel
theorem dX1_logged_34 : decode cX1_logged 34 = .ok (.ireturn, 1) := by decide +kernel
theorem dX1_logged_35 : decode cX1_logged 35 = .ok (.iload_n 2, 1) := by decide +kernel
theorem dX1_logged_36 : decode cX1_logged 36 = .ok (.iconst 1, 1) := by decide +kernel
theorem dX1_logged_37 : decode cX1_logged 37 = .ok (.if_icmp .ne 12, 3) := by decide +kernel
theorem dX1_logged_40 : decode cX1_logged 40 = .ok (.aload_n 0, 1) := by decide +kernel
theorem dX1_logged_41 : decode cX1_logged 41 = .ok (.getfield 25, 3) := by decide +kernel
theorem dX1_logged_44 : decode cX1_logged 44 = .ok (.iload_n 1, 1) := by decide +kernel
theorem dX1_logged_45 : decode cX1_logged 45 = .ok (.iaload, 1) := by decide +kernel
theorem dX1_logged_46 : decode cX1_logged 46 = .ok (.goto 9, 3) := by decide +kernel
theorem dX1_logged_49 : decode cX1_logged 49 = .ok (.aload_n 0, 1) := by decide +kernel
theorem dX1_logged_50 : decode cX1_logged 50 = .ok (.getfield 28, 3) := by decide +kernel
theorem dX1_logged_53 : decode cX1_logged 53 = .ok (.iload_n 1, 1) := by decide +kernel
theorem dX1_logged_54 : decode cX1_logged 54 = .ok (.iaload, 1) := by decide +kernel
theorem dX1_logged_55 : decode cX1_logged 55 = .ok (.ireturn, 1) := by decide +kernel
theorem dX1_note_0 : decode cX1_note 0 = .ok (.bipush 7, 2) := by decide +kernel
theorem dX1_note_2 : decode cX1_note 2 = .ok (.istore 4, 2) := by decide +kernel
theorem dX1_note_4 : decode cX1_note 4 = .ok (.iload 4, 2) := by decide +kernel
theorem dX1_note_6 : decode cX1_note 6 = .ok (.ifCond .le 57, 3) := by decide +kernel
theorem dX1_note_9 : decode cX1_note 9 = .ok (.aload_n 0, 1) := by decide +kernel
theorem dX1_note_10 : decode cX1_note 10 = .ok (.getfield 22, 3) := by decide +kernel
theorem dX1_note_13 : decode cX1_note 13 = .ok (.iload 4, 2) := by decide +kernel
theorem dX1_note_15 : decode cX1_note 15 = .ok (.aload_n 0, 1) := by decide +kernel
theorem dX1_note_16 : decode cX1_note 16 = .ok (.getfield 22, 3) := by decide +kernel
theorem dX1_note_19 : decode cX1_note 19 = .ok (.iload 4, 2) := by decide +kernel
theorem dX1_note_21 : decode cX1_note 21 = .ok (.iconst 1, 1) := by decide +kernel
theorem dX1_note_22 : decode cX1_note 22 = .ok (.isub, 1) := by decide +kernel
theorem dX1_note_23 : decode cX1_note 23 = .ok (.iaload, 1) := by decide +kernel
theorem dX1_note_24 : decode cX1_note 24 = .ok (.iastore, 1) := by decide +kernel
theorem dX1_note_25 : decode cX1_note 25 = .ok (.aload_n 0, 1) := by decide +kernel
theorem dX1_note_26 : decode cX1_note 26 = .ok (.getfield 25, 3) := by decide +kernel
theorem dX1_note_29 : decode cX1_note 29 = .ok (.iload 4, 2) := by decide +kernel
theorem dX1_note_31 : decode cX1_note 31 = .ok (.aload_n 0, 1) := by decide +kernel
theorem dX1_note_32 : decode cX1_note 32 = .ok (.getfield 25, 3) := by decide +kernel
theorem dX1_note_35 : decode cX1_note 35 = .ok (.iload 4, 2) := by decide +kernel
theorem dX1_note_37 : decode cX1_note 37 = .ok (.iconst 1, 1) := by decide +kernel
theorem dX1_note_38 : decode cX1_note 38 = .ok (.isub, 1) := by decide +kernel
theorem dX1_note_39 : decode cX1_note 39 = .ok (.iaload, 1) := by decide +kernel
theorem dX1_note_40 : decode cX1_note 40 = .ok (.iastore, 1) := by decide +kernel
theorem dX1_note_41 : decode cX1_note 41 = .ok (.aload_n 0, 1) := by decide +kernel
theorem dX1_note_42 : decode cX1_note 42 = .ok (.getfield 28, 3) := by decide +kernel
theorem dX1_note_45 : decode cX1_note 45 = .ok (.iload 4, 2) := by decide +kernel
theorem dX1_note_47 : decode cX1_note 47 = .ok (.aload_n 0, 1) := by decide +kernel
theorem dX1_note_48 : decode cX1_note 48 = .ok (.getfield 28, 3) := by decide +kernel
theorem dX1_note_51 : decode cX1_note 51 = .ok (.iload 4, 2) := by decide +kernel
theorem dX1_note_53 : decode cX1_note 53 = .ok (.iconst 1, 1) := by decide +kernel
theorem dX1_note_54 : decode cX1_note 54 = .ok (.isub, 1) := by decide +kernel
theorem dX1_note_55 : decode cX1_note 55 = .ok (.iaload, 1) := by decide +kernel
theorem dX1_note_56 : decode cX1_note 56 = .ok (.iastore, 1) := by decide +kernel
theorem dX1_note_57 : decode cX1_note 57 = .ok (.iinc 4 (-1), 3) := by decide +kernel
theorem dX1_note_60 : decode cX1_note 60 = .ok (.goto (-56), 3) := by decide +kernel
theorem dX1_note_63 : decode cX1_note 63 = .ok (.aload_n 0, 1) := by decide +kernel
theorem dX1_note_64 : decode cX1_note 64 = .ok (.getfield 22, 3) := by decide +kernel
theorem dX1_note_67 : decode cX1_note 67 = .ok (.iconst 0, 1) := by decide +kernel
theorem dX1_note_68 : decode cX1_note 68 = .ok (.iload_n 1, 1) := by decide +kernel
theorem dX1_note_69 : decode cX1_note 69 = .ok (.iastore, 1) := by decide +kernel
theorem dX1_note_70 : decode cX1_note 70 = .ok (.aload_n 0, 1) := by decide +kernel
theorem dX1_note_71 : decode cX1_note 71 = .ok (.getfield 25, 3) := by decide +kernel
theorem dX1_note_74 : decode cX1_note 74 = .ok (.iconst 0, 1) := by decide +kernel
theorem dX1_note_75 : decode cX1_note 75 = .ok (.iload_n 2, 1) := by decide +kernel
theorem dX1_note_76 : decode cX1_note 76 = .ok (.iastore, 1) := by decide +kernel
theorem dX1_note_77 : decode cX1_note 77 = .ok (.aload_n 0, 1) := by decide +kernel
theorem dX1_note_78 : decode cX1_note 78 = .ok (.getfield 28, 3) := by decide +kernel
theorem dX1_note_81 : decode cX1_note 81 = .ok (.iconst 0, 1) := by decide +kernel
theorem dX1_note_82 : decode cX1_note 82 = .ok (.iload_n 3, 1) := by decide +kernel
theorem dX1_note_83 : decode cX1_note 83 = .ok (.iastore, 1) := by decide +kernel
theorem dX1_note_84 : decode cX1_note 84 = .ok (.aload_n 0, 1) := by decide +kernel
theorem dX1_note_85 : decode cX1_note 85 = .ok (.aload_n 0, 1) := by decide +kernel
theorem dX1_note_86 : decode cX1_note 86 = .ok (.getfield 46, 3) := by decide +kernel
theorem dX1_note_89 : decode cX1_note 89 = .ok (.iconst 1, 1) := by decide +kernel
theorem dX1_note_90 : decode cX1_note 90 = .ok (.iadd, 1) := by decide +kernel
theorem dX1_note_91 : decode cX1_note 91 = .ok (.bipush 8, 2) := by decide +kernel
theorem dX1_note_93 : decode cX1_note 93 = .ok (.invokestatic 73, 3) := by decide +kernel
theorem dX1_note_96 : decode cX1_note 96 = .ok (.putfield 46, 3) := by decide +kernel
theorem dX1_note_99 : decode cX1_note 99 = .ok (.aload_n 0, 1) := by decide +kernel
theorem dX1_note_100 : decode cX1_note 100 = .ok (.dup, 1) := by decide +kernel
theorem dX1_note_101 : decode cX1_note 101 = .ok (.getfield 34, 3) := by decide +kernel
theorem dX1_note_104 : decode cX1_note 104 = .ok (.iconst 1, 1) := by decide +kernel
theorem dX1_note_105 : decode cX1_note 105 = .ok (.iadd, 1) := by decide +kernel
theorem dX1_note_106 : decode cX1_note 106 = .ok (.putfield 34, 3) := by decide +kernel
theorem dX1_note_109 : decode cX1_note 109 = .ok (.aload_n 0, 1) := by decide +kernel
theorem dX1_note_110 : decode cX1_note 110 = .ok (.dup, 1) := by decide +kernel
theorem dX1_note_111 : decode cX1_note 111 = .ok (.getfield 37, 3) := by decide +kernel
theorem dX1_note_114 : decode cX1_note 114 = .ok (.iload_n 3, 1) := by decide +kernel
theorem dX1_note_115 : decode cX1_note 115 = .ok (.iadd, 1) := by decide +kernel
theorem dX1_note_116 : decode cX1_note 116 = .ok (.putfield 37, 3) := by decide +kernel
theorem dX1_note_119 : decode cX1_note 119 = .ok (.return_, 1) := by decide +kernel
theorem dX2_init_0 : decode cX2_init 0 = .ok (.aload_n 0, 1) := by decide +kernel
theorem dX2_init_1 : decode cX2_init 1 = .ok (.invokespecial 3, 3) := by decide +kernel
theorem dX2_init_4 : decode cX2_init 4 = .ok (.aload_n 0, 1) := by decide +kernel
theorem dX2_init_5 : decode cX2_init 5 = .ok (.bipush 64, 2) := by decide +kernel
theorem dX2_init_7 : decode cX2_init 7 = .ok (.newarray .int, 2) := by decide +kernel
theorem dX2_init_9 : decode cX2_init 9 = .ok (.putfield 9, 3) := by decide +kernel
theorem dX2_init_12 : decode cX2_init 12 = .ok (.aload_n 0, 1) := by decide +kernel
theorem dX2_init_13 : decode cX2_init 13 = .ok (.bipush 64, 2) := by decide +kernel
theorem dX2_init_15 : decode cX2_init 15 = .ok (.newarray .int, 2) := by decide +kernel
theorem dX2_init_17 : decode cX2_init 17 = .ok (.putfield 15, 3) := by decide +kernel
theorem dX2_init_20 : decode cX2_init 20 = .ok (.aload_n 0, 1) := by decide +kernel
theorem dX2_init_21 : decode cX2_init 21 = .ok (.bipush 64, 2) := by decide +kernel
theorem dX2_init_23 : decode cX2_init 23 = .ok (.newarray .int, 2) := by decide +kernel
theorem dX2_init_25 : decode cX2_init 25 = .ok (.putfield 18, 3) := by decide +kernel
theorem dX2_init_28 : decode cX2_init 28 = .ok (.return_, 1) := by decide +kernel
theorem dX2_hasRoom_0 : decode cX2_hasRoom 0 = .ok (.aload_n 0, 1) := by decide +kernel
theorem dX2_hasRoom_1 : decode cX2_hasRoom 1 = .ok (.getfield 21, 3) := by decide +kernel
theorem dX2_hasRoom_4 : decode cX2_hasRoom 4 = .ok (.bipush 64, 2) := by decide +kernel
theorem dX2_hasRoom_6 : decode cX2_hasRoom 6 = .ok (.if_icmp .lt 16, 3) := by decide +kernel
theorem dX2_hasRoom_9 : decode cX2_hasRoom 9 = .ok (.aload_n 0, 1) := by decide +kernel
theorem dX2_hasRoom_10 : decode cX2_hasRoom 10 = .ok (.aload_n 0, 1) := by decide +kernel
theorem dX2_hasRoom_11 : decode cX2_hasRoom 11 = .ok (.iload_n 1, 1) := by decide +kernel
theorem dX2_hasRoom_12 : decode cX2_hasRoom 12 = .ok (.invokestatic 27, 3) := by decide +kernel
theorem dX2_hasRoom_15 : decode cX2_hasRoom 15 = .ok (.invokestatic 31, 3) := by decide +kernel
theorem dX2_hasRoom_18 : decode cX2_hasRoom 18 = .ok (.iconst (-1), 1) := by decide +kernel
theorem dX2_hasRoom_19 : decode cX2_hasRoom 19 = .ok (.if_icmp .eq 7, 3) := by decide +kernel
theorem dX2_hasRoom_22 : decode cX2_hasRoom 22 = .ok (.iconst 1, 1) := by decide +kernel
theorem dX2_hasRoom_23 : decode cX2_hasRoom 23 = .ok (.goto 4, 3) := by decide +kernel
theorem dX2_hasRoom_26 : decode cX2_hasRoom 26 = .ok (.iconst 0, 1) := by decide +kernel
theorem dX2_hasRoom_27 : decode cX2_hasRoom 27 = .ok (.ireturn, 1) := by decide +kernel
theorem dX2_segmentFor_0 : decode cX2_segmentFor 0 = .ok (.aload_n 0, 1) := by decide +kernel
theorem dX2_segmentFor_1 : decode cX2_segmentFor 1 = .ok (.iload_n 1, 1) := by decide +kernel
theorem dX2_segmentFor_2 : decode cX2_segmentFor 2 = .ok (.invokevirtual 34, 3) := by decide +kernel
theorem dX2_segmentFor_5 : decode cX2_segmentFor 5 = .ok (.istore_n 2, 1) := by decide +kernel
theorem dX2_segmentFor_6 : decode cX2_segmentFor 6 = .ok (.iload_n 2, 1) := by decide +kernel
theorem dX2_segmentFor_7 : decode cX2_segmentFor 7 = .ok (.ifCond .ne 7, 3) := by decide +kernel
theorem dX2_segmentFor_10 : decode cX2_segmentFor 10 = .ok (.iconst 0, 1) := by decide +kernel
theorem dX2_segmentFor_11 : decode cX2_segmentFor 11 = .ok (.goto 12, 3) := by decide +kernel
theorem dX2_segmentFor_14 : decode cX2_segmentFor 14 = .ok (.aload_n 0, 1) := by decide +kernel
theorem dX2_segmentFor_15 : decode cX2_segmentFor 15 = .ok (.iload_n 2, 1) := by decide +kernel
theorem dX2_segmentFor_16 : decode cX2_segmentFor 16 = .ok (.iconst 1, 1) := by decide +kernel
theorem dX2_segmentFor_17 : decode cX2_segmentFor 17 = .ok (.isub, 1) := by decide +kernel
theorem dX2_segmentFor_18 : decode cX2_segmentFor 18 = .ok (.invokevirtual 38, 3) := by decide +kernel
theorem dX2_segmentFor_21 : decode cX2_segmentFor 21 = .ok (.iconst 4, 1) := by decide +kernel
theorem dX2_segmentFor_22 : decode cX2_segmentFor 22 = .ok (.idiv, 1) := by decide +kernel
theorem dX2_segmentFor_23 : decode cX2_segmentFor 23 = .ok (.ireturn, 1) := by decide +kernel
theorem dX2_levelFor_0 : decode cX2_levelFor 0 = .ok (.iconst 0, 1) := by decide +kernel
theorem dX2_levelFor_1 : decode cX2_levelFor 1 = .ok (.istore_n 2, 1) := by decide +kernel
theorem dX2_levelFor_2 : decode cX2_levelFor 2 = .ok (.iload_n 2, 1) := by decide +kernel
theorem dX2_levelFor_3 : decode cX2_levelFor 3 = .ok (.aload_n 0, 1) := by decide +kernel
theorem dX2_levelFor_4 : decode cX2_levelFor 4 = .ok (.invokevirtual 41, 3) := by decide +kernel
theorem dX2_levelFor_7 : decode cX2_levelFor 7 = .ok (.if_icmp .gt 34, 3) := by decide +kernel
theorem dX2_levelFor_10 : decode cX2_levelFor 10 = .ok (.aload_n 0, 1) := by decide +kernel
theorem dX2_levelFor_11 : decode cX2_levelFor 11 = .ok (.iload_n 1, 1) := by decide +kernel
theorem dX2_levelFor_12 : decode cX2_levelFor 12 = .ok (.iload_n 2, 1) := by decide +kernel
theorem dX2_levelFor_13 : decode cX2_levelFor 13 = .ok (.invokestatic 45, 3) := by decide +kernel
theorem dX2_levelFor_16 : decode cX2_levelFor 16 = .ok (.iload_n 2, 1) := by decide +kernel
theorem dX2_levelFor_17 : decode cX2_levelFor 17 = .ok (.invokestatic 49, 3) := by decide +kernel
theorem dX2_levelFor_20 : decode cX2_levelFor 20 = .ok (.invokevirtual 52, 3) := by decide +kernel
theorem dX2_levelFor_23 : decode cX2_levelFor 23 = .ok (.iconst 1, 1) := by decide +kernel
theorem dX2_levelFor_24 : decode cX2_levelFor 24 = .ok (.iadd, 1) := by decide +kernel
theorem dX2_levelFor_25 : decode cX2_levelFor 25 = .ok (.aload_n 0, 1) := by decide +kernel
theorem dX2_levelFor_26 : decode cX2_levelFor 26 = .ok (.iload_n 2, 1) := by decide +kernel
theorem dX2_levelFor_27 : decode cX2_levelFor 27 = .ok (.invokevirtual 55, 3) := by decide +kernel
theorem dX2_levelFor_30 : decode cX2_levelFor 30 = .ok (.if_icmp .gt 5, 3) := by decide +kernel
theorem dX2_levelFor_33 : decode cX2_levelFor 33 = .ok (.iload_n 2, 1) := by decide +kernel
theorem dX2_levelFor_34 : decode cX2_levelFor 34 = .ok (.ireturn, 1) := by decide +kernel
theorem dX2_levelFor_35 : decode cX2_levelFor 35 = .ok (.iinc 2 1, 3) := by decide +kernel
theorem dX2_levelFor_38 : decode cX2_levelFor 38 = .ok (.goto (-36), 3) := by decide +kernel
theorem dX2_levelFor_41 : decode cX2_levelFor 41 = .ok (.iconst (-1), 1) := by decide +kernel
theorem dX2_levelFor_42 : decode cX2_levelFor 42 = .ok (.ireturn, 1) := by decide +kernel
theorem dX2_windowStart_0 : decode cX2_windowStart 0 = .ok (.iload_n 0, 1) := by decide +kernel
theorem dX2_windowStart_1 : decode cX2_windowStart 1 = .ok (.iload_n 1, 1) := by decide +kernel
theorem dX2_windowStart_2 : decode cX2_windowStart 2 = .ok (.ishr, 1) := by decide +kernel
theorem dX2_windowStart_3 : decode cX2_windowStart 3 = .ok (.iload_n 1, 1) := by decide +kernel
theorem dX2_windowStart_4 : decode cX2_windowStart 4 = .ok (.invokestatic 49, 3) := by decide +kernel
theorem dX2_windowStart_7 : decode cX2_windowStart 7 = .ok (.imul, 1) := by decide +kernel
theorem dX2_windowStart_8 : decode cX2_windowStart 8 = .ok (.ireturn, 1) := by decide +kernel
theorem dX2_come_0 : decode cX2_come 0 = .ok (.aload_n 1, 1) := by decide +kernel
theorem dX2_come_1 : decode cX2_come 1 = .ok (.iload_n 2, 1) := by decide +kernel
theorem dX2_come_2 : decode cX2_come 2 = .ok (.invokestatic 27, 3) := by decide +kernel
theorem dX2_come_5 : decode cX2_come 5 = .ok (.istore 4, 2) := by decide +kernel
theorem dX2_come_7 : decode cX2_come 7 = .ok (.aload_n 1, 1) := by decide +kernel
theorem dX2_come_8 : decode cX2_come 8 = .ok (.iload 4, 2) := by decide +kernel
theorem dX2_come_10 : decode cX2_come 10 = .ok (.invokestatic 31, 3) := by decide +kernel
theorem dX2_come_13 : decode cX2_come 13 = .ok (.istore 5, 2) := by decide +kernel
theorem dX2_come_15 : decode cX2_come 15 = .ok (.iload 5, 2) := by decide +kernel
theorem dX2_come_17 : decode cX2_come 17 = .ok (.iconst (-1), 1) := by decide +kernel
theorem dX2_come_18 : decode cX2_come 18 = .ok (.if_icmp .ne 55, 3) := by decide +kernel
theorem dX2_come_21 : decode cX2_come 21 = .ok (.aload_n 0, 1) := by decide +kernel
theorem dX2_come_22 : decode cX2_come 22 = .ok (.aload_n 1, 1) := by decide +kernel
theorem dX2_come_23 : decode cX2_come 23 = .ok (.iconst 0, 1) := by decide +kernel
theorem dX2_come_24 : decode cX2_come 24 = .ok (.aload_n 1, 1) := by decide +kernel
theorem dX2_come_25 : decode cX2_come 25 = .ok (.getfield 21, 3) := by decide +kernel
theorem dX2_come_28 : decode cX2_come 28 = .ok (.invokevirtual 58, 3) := by decide +kernel
theorem dX2_come_31 : decode cX2_come 31 = .ok (.aload_n 1, 1) := by decide +kernel
theorem dX2_come_32 : decode cX2_come 32 = .ok (.iconst 2, 1) := by decide +kernel
theorem dX2_come_33 : decode cX2_come 33 = .ok (.aload_n 1, 1) := by decide +kernel
theorem dX2_come_34 : decode cX2_come 34 = .ok (.getfield 21, 3) := by decide +kernel
theorem dX2_come_37 : decode cX2_come 37 = .ok (.imul, 1) := by decide +kernel
theorem dX2_come_38 : decode cX2_come 38 = .ok (.bipush 64, 2) := by decide +kernel
theorem dX2_come_40 : decode cX2_come 40 = .ok (.invokestatic 62, 3) := by decide +kernel
theorem dX2_come_43 : decode cX2_come 43 = .ok (.putfield 21, 3) := by decide +kernel
theorem dX2_come_46 : decode cX2_come 46 = .ok (.aload_n 1, 1) := by decide +kernel
theorem dX2_come_47 : decode cX2_come 47 = .ok (.dup, 1) := by decide +kernel
theorem dX2_come_48 : decode cX2_come 48 = .ok (.getfield 67, 3) := by decide +kernel
theorem dX2_come_51 : decode cX2_come 51 = .ok (.iconst 1, 1) := by decide +kernel
theorem dX2_come_52 : decode cX2_come 52 = .ok (.iadd, 1) := by decide +kernel
theorem dX2_come_53 : decode cX2_come 53 = .ok (.putfield 67, 3) := by decide +kernel
theorem dX2_come_56 : decode cX2_come 56 = .ok (.aload_n 0, 1) := by decide +kernel
theorem dX2_come_57 : decode cX2_come 57 = .ok (.iload_n 2, 1) := by decide +kernel
theorem dX2_come_58 : decode cX2_come 58 = .ok (.iload_n 3, 1) := by decide +kernel
theorem dX2_come_59 : decode cX2_come 59 = .ok (.invokevirtual 70, 3) := by decide +kernel
theorem dX2_come_62 : decode cX2_come 62 = .ok (.aload_n 0, 1) := by decide +kernel
theorem dX2_come_63 : decode cX2_come 63 = .ok (.aload_n 1, 1) := by decide +kernel
theorem dX2_come_64 : decode cX2_come 64 = .ok (.iconst 0, 1) := by decide +kernel
theorem dX2_come_65 : decode cX2_come 65 = .ok (.aload_n 1, 1) := by decide +kernel
theorem dX2_come_66 : decode cX2_come 66 = .ok (.getfield 21, 3) := by decide +kernel
theorem dX2_come_69 : decode cX2_come 69 = .ok (.invokevirtual 74, 3) := by decide +kernel
theorem dX2_come_72 : decode cX2_come 72 = .ok (.ireturn, 1) := by decide +kernel
theorem dX2_come_73 : decode cX2_come 73 = .ok (.iload 4, 2) := by decide +kernel
theorem dX2_come_75 : decode cX2_come 75 = .ok (.iload 5, 2) := by decide +kernel
theorem dX2_come_77 : decode cX2_come 77 = .ok (.invokestatic 45, 3) := by decide +kernel
theorem dX2_come_80 : decode cX2_come 80 = .ok (.istore 6, 2) := by decide +kernel
theorem dX2_come_82 : decode cX2_come 82 = .ok (.aload_n 0, 1) := by decide +kernel
theorem dX2_come_83 : decode cX2_come 83 = .ok (.aload_n 1, 1) := by decide +kernel
theorem dX2_come_84 : decode cX2_come 84 = .ok (.iload 6, 2) := by decide +kernel
theorem dX2_come_86 : decode cX2_come 86 = .ok (.iload 5, 2) := by decide +kernel
theorem dX2_come_88 : decode cX2_come 88 = .ok (.invokestatic 49, 3) := by decide +kernel
theorem dX2_come_91 : decode cX2_come 91 = .ok (.invokevirtual 58, 3) := by decide +kernel
theorem dX2_come_94 : decode cX2_come 94 = .ok (.aload_n 0, 1) := by decide +kernel
theorem dX2_come_95 : decode cX2_come 95 = .ok (.iload_n 2, 1) := by decide +kernel
theorem dX2_come_96 : decode cX2_come 96 = .ok (.iload_n 3, 1) := by decide +kernel
theorem dX2_come_97 : decode cX2_come 97 = .ok (.invokevirtual 70, 3) := by decide +kernel
theorem dX2_come_100 : decode cX2_come 100 = .ok (.aload_n 0, 1) := by decide +kernel
theorem dX2_come_101 : decode cX2_come 101 = .ok (.aload_n 1, 1) := by decide +kernel
theorem dX2_come_102 : decode cX2_come 102 = .ok (.iload 6, 2) := by decide +kernel
theorem dX2_come_104 : decode cX2_come 104 = .ok (.iload 5, 2) := by decide +kernel
theorem dX2_come_106 : decode cX2_come 106 = .ok (.invokestatic 49, 3) := by decide +kernel
theorem dX2_come_109 : decode cX2_come 109 = .ok (.invokevirtual 74, 3) := by decide +kernel
theorem dX2_come_112 : decode cX2_come 112 = .ok (.ireturn, 1) := by decide +kernel
theorem dX2_go_0 : decode cX2_go 0 = .ok (.aload_n 1, 1) := by decide +kernel
theorem dX2_go_1 : decode cX2_go 1 = .ok (.iload_n 2, 1) := by decide +kernel
theorem dX2_go_2 : decode cX2_go 2 = .ok (.invokevirtual 78, 3) := by decide +kernel
theorem dX2_go_5 : decode cX2_go 5 = .ok (.istore_n 3, 1) := by decide +kernel
theorem dX2_go_6 : decode cX2_go 6 = .ok (.aload_n 1, 1) := by decide +kernel
theorem dX2_go_7 : decode cX2_go 7 = .ok (.iload_n 2, 1) := by decide +kernel
theorem dX2_go_8 : decode cX2_go 8 = .ok (.iconst (-1), 1) := by decide +kernel
theorem dX2_go_9 : decode cX2_go 9 = .ok (.iconst 0, 1) := by decide +kernel
theorem dX2_go_10 : decode cX2_go 10 = .ok (.invokevirtual 81, 3) := by decide +kernel
theorem dX2_go_13 : decode cX2_go 13 = .ok (.iload_n 2, 1) := by decide +kernel
theorem dX2_go_14 : decode cX2_go 14 = .ok (.iconst 4, 1) := by decide +kernel
theorem dX2_go_15 : decode cX2_go 15 = .ok (.idiv, 1) := by decide +kernel
theorem dX2_go_16 : decode cX2_go 16 = .ok (.istore 4, 2) := by decide +kernel
theorem dX2_go_18 : decode cX2_go 18 = .ok (.aload_n 1, 1) := by decide +kernel
theorem dX2_go_19 : decode cX2_go 19 = .ok (.iload 4, 2) := by decide +kernel
theorem dX2_go_21 : decode cX2_go 21 = .ok (.iconst 0, 1) := by decide +kernel
theorem dX2_go_22 : decode cX2_go 22 = .ok (.invokestatic 45, 3) := by decide +kernel
theorem dX2_go_25 : decode cX2_go 25 = .ok (.iconst 4, 1) := by decide +kernel
theorem dX2_go_26 : decode cX2_go 26 = .ok (.invokevirtual 52, 3) := by decide +kernel
theorem dX2_go_29 : decode cX2_go 29 = .ok (.aload_n 1, 1) := by decide +kernel
theorem dX2_go_30 : decode cX2_go 30 = .ok (.iconst 0, 1) := by decide +kernel
theorem dX2_go_31 : decode cX2_go 31 = .ok (.invokevirtual 85, 3) := by decide +kernel
theorem dX2_go_34 : decode cX2_go 34 = .ok (.if_icmp .lt 5, 3) := by decide +kernel
theorem dX2_go_37 : decode cX2_go 37 = .ok (.iload_n 3, 1) := by decide +kernel
theorem dX2_go_38 : decode cX2_go 38 = .ok (.ireturn, 1) := by decide +kernel
theorem dX2_go_39 : decode cX2_go 39 = .ok (.iconst 1, 1) := by decide +kernel
theorem dX2_go_40 : decode cX2_go 40 = .ok (.istore 5, 2) := by decide +kernel
theorem dX2_go_42 : decode cX2_go 42 = .ok (.iload 5, 2) := by decide +kernel
theorem dX2_go_44 : decode cX2_go 44 = .ok (.aload_n 1, 1) := by decide +kernel
theorem dX2_go_45 : decode cX2_go 45 = .ok (.invokevirtual 41, 3) := by decide +kernel
theorem dX2_go_48 : decode cX2_go 48 = .ok (.if_icmp .gt 53, 3) := by decide +kernel
theorem dX2_go_51 : decode cX2_go 51 = .ok (.iload 4, 2) := by decide +kernel
theorem dX2_go_53 : decode cX2_go 53 = .ok (.iload 5, 2) := by decide +kernel
theorem dX2_go_55 : decode cX2_go 55 = .ok (.invokestatic 45, 3) := by decide +kernel
theorem dX2_go_58 : decode cX2_go 58 = .ok (.istore 6, 2) := by decide +kernel
theorem dX2_go_60 : decode cX2_go 60 = .ok (.aload_n 1, 1) := by decide +kernel
theorem dX2_go_61 : decode cX2_go 61 = .ok (.iload 6, 2) := by decide +kernel
theorem dX2_go_63 : decode cX2_go 63 = .ok (.iload 5, 2) := by decide +kernel
theorem dX2_go_65 : decode cX2_go 65 = .ok (.invokestatic 49, 3) := by decide +kernel
theorem dX2_go_68 : decode cX2_go 68 = .ok (.invokevirtual 52, 3) := by decide +kernel
theorem dX2_go_71 : decode cX2_go 71 = .ok (.aload_n 1, 1) := by decide +kernel
theorem dX2_go_72 : decode cX2_go 72 = .ok (.iload 5, 2) := by decide +kernel
theorem dX2_go_74 : decode cX2_go 74 = .ok (.invokevirtual 85, 3) := by decide +kernel
theorem dX2_go_77 : decode cX2_go 77 = .ok (.if_icmp .lt 18, 3) := by decide +kernel
theorem dX2_go_80 : decode cX2_go 80 = .ok (.aload_n 0, 1) := by decide +kernel
theorem dX2_go_81 : decode cX2_go 81 = .ok (.aload_n 1, 1) := by decide +kernel
theorem dX2_go_82 : decode cX2_go 82 = .ok (.iload 6, 2) := by decide +kernel
theorem dX2_go_84 : decode cX2_go 84 = .ok (.iload 5, 2) := by decide +kernel
theorem dX2_go_86 : decode cX2_go 86 = .ok (.invokestatic 49, 3) := by decide +kernel
theorem dX2_go_89 : decode cX2_go 89 = .ok (.invokevirtual 88, 3) := by decide +kernel
theorem dX2_go_92 : decode cX2_go 92 = .ok (.pop, 1) := by decide +kernel
theorem dX2_go_93 : decode cX2_go 93 = .ok (.iload_n 3, 1) := by decide +kernel
theorem dX2_go_94 : decode cX2_go 94 = .ok (.ireturn, 1) := by decide +kernel
theorem dX2_go_95 : decode cX2_go 95 = .ok (.iinc 5 1, 3) := by decide +kernel
theorem dX2_go_98 : decode cX2_go 98 = .ok (.goto (-56), 3) := by decide +kernel
theorem dX2_go_101 : decode cX2_go 101 = .ok (.aload_n 0, 1) := by decide +kernel
theorem dX2_go_102 : decode cX2_go 102 = .ok (.aload_n 1, 1) := by decide +kernel
theorem dX2_go_103 : decode cX2_go 103 = .ok (.invokevirtual 91, 3) := by decide +kernel
theorem dX2_go_106 : decode cX2_go 106 = .ok (.iload_n 3, 1) := by decide +kernel
theorem dX2_go_107 : decode cX2_go 107 = .ok (.ireturn, 1) := by decide +kernel
theorem dX2_shrink_0 : decode cX2_shrink 0 = .ok (.aload_n 0, 1) := by decide +kernel
theorem dX2_shrink_1 : decode cX2_shrink 1 = .ok (.aload_n 1, 1) := by decide +kernel
theorem dX2_shrink_2 : decode cX2_shrink 2 = .ok (.iconst 0, 1) := by decide +kernel
theorem dX2_shrink_3 : decode cX2_shrink 3 = .ok (.aload_n 1, 1) := by decide +kernel
theorem dX2_shrink_4 : decode cX2_shrink 4 = .ok (.getfield 21, 3) := by decide +kernel
theorem dX2_shrink_7 : decode cX2_shrink 7 = .ok (.invokevirtual 58, 3) := by decide +kernel
theorem dX2_shrink_10 : decode cX2_shrink 10 = .ok (.aload_n 1, 1) := by decide +kernel
theorem dX2_shrink_11 : decode cX2_shrink 11 = .ok (.getfield 21, 3) := by decide +kernel
theorem dX2_shrink_14 : decode cX2_shrink 14 = .ok (.bipush 16, 2) := by decide +kernel
theorem dX2_shrink_16 : decode cX2_shrink 16 = .ok (.if_icmp .le 23, 3) := by decide +kernel
theorem dX2_shrink_19 : decode cX2_shrink 19 = .ok (.aload_n 1, 1) := by decide +kernel
theorem dX2_shrink_20 : decode cX2_shrink 20 = .ok (.dup, 1) := by decide +kernel
theorem dX2_shrink_21 : decode cX2_shrink 21 = .ok (.getfield 21, 3) := by decide +kernel
theorem dX2_shrink_24 : decode cX2_shrink 24 = .ok (.iconst 2, 1) := by decide +kernel
theorem dX2_shrink_25 : decode cX2_shrink 25 = .ok (.idiv, 1) := by decide +kernel
theorem dX2_shrink_26 : decode cX2_shrink 26 = .ok (.putfield 21, 3) := by decide +kernel
theorem dX2_shrink_29 : decode cX2_shrink 29 = .ok (.aload_n 1, 1) := by decide +kernel
theorem dX2_shrink_30 : decode cX2_shrink 30 = .ok (.dup, 1) := by decide +kernel
theorem dX2_shrink_31 : decode cX2_shrink 31 = .ok (.getfield 95, 3) := by decide +kernel
theorem dX2_shrink_34 : decode cX2_shrink 34 = .ok (.iconst 1, 1) := by decide +kernel
theorem dX2_shrink_35 : decode cX2_shrink 35 = .ok (.iadd, 1) := by decide +kernel
theorem dX2_shrink_36 : decode cX2_shrink 36 = .ok (.putfield 95, 3) := by decide +kernel
theorem dX2_shrink_39 : decode cX2_shrink 39 = .ok (.aload_n 0, 1) := by decide +kernel
theorem dX2_shrink_40 : decode cX2_shrink 40 = .ok (.aload_n 1, 1) := by decide +kernel
theorem dX2_shrink_41 : decode cX2_shrink 41 = .ok (.iconst 0, 1) := by decide +kernel
theorem dX2_shrink_42 : decode cX2_shrink 42 = .ok (.aload_n 1, 1) := by decide +kernel
theorem dX2_shrink_43 : decode cX2_shrink 43 = .ok (.getfield 21, 3) := by decide +kernel
theorem dX2_shrink_46 : decode cX2_shrink 46 = .ok (.invokevirtual 74, 3) := by decide +kernel
theorem dX2_shrink_49 : decode cX2_shrink 49 = .ok (.pop, 1) := by decide +kernel
theorem dX2_shrink_50 : decode cX2_shrink 50 = .ok (.return_, 1) := by decide +kernel
theorem dX2_space_0 : decode cX2_space 0 = .ok (.aload_n 0, 1) := by decide +kernel
theorem dX2_space_1 : decode cX2_space 1 = .ok (.aload_n 1, 1) := by decide +kernel
theorem dX2_space_2 : decode cX2_space 2 = .ok (.iload_n 2, 1) := by decide +kernel
theorem dX2_space_3 : decode cX2_space 3 = .ok (.iload_n 3, 1) := by decide +kernel
theorem dX2_space_4 : decode cX2_space 4 = .ok (.invokevirtual 58, 3) := by decide +kernel
theorem dX2_space_7 : decode cX2_space 7 = .ok (.aload_n 0, 1) := by decide +kernel
theorem dX2_space_8 : decode cX2_space 8 = .ok (.aload_n 1, 1) := by decide +kernel
theorem dX2_space_9 : decode cX2_space 9 = .ok (.iload_n 2, 1) := by decide +kernel
theorem dX2_space_10 : decode cX2_space 10 = .ok (.iload_n 3, 1) := by decide +kernel
theorem dX2_space_11 : decode cX2_space 11 = .ok (.invokevirtual 74, 3) := by decide +kernel
theorem dX2_space_14 : decode cX2_space 14 = .ok (.ireturn, 1) := by decide +kernel
theorem dX2_takeUp_0 : decode cX2_takeUp 0 = .ok (.aload_n 0, 1) := by decide +kernel
theorem dX2_takeUp_1 : decode cX2_takeUp 1 = .ok (.iconst 0, 1) := by decide +kernel
theorem dX2_takeUp_2 : decode cX2_takeUp 2 = .ok (.putfield 98, 3) := by decide +kernel
theorem dX2_takeUp_5 : decode cX2_takeUp 5 = .ok (.aload_n 0, 1) := by decide +kernel
theorem dX2_takeUp_6 : decode cX2_takeUp 6 = .ok (.iconst (-1), 1) := by decide +kernel
theorem dX2_takeUp_7 : decode cX2_takeUp 7 = .ok (.putfield 101, 3) := by decide +kernel
theorem dX2_takeUp_10 : decode cX2_takeUp 10 = .ok (.iload_n 2, 1) := by decide +kernel
theorem dX2_takeUp_11 : decode cX2_takeUp 11 = .ok (.istore 4, 2) := by decide +kernel
theorem dX2_takeUp_13 : decode cX2_takeUp 13 = .ok (.iload 4, 2) := by decide +kernel
theorem dX2_takeUp_15 : decode cX2_takeUp 15 = .ok (.iload_n 2, 1) := by decide +kernel
theorem dX2_takeUp_16 : decode cX2_takeUp 16 = .ok (.iload_n 3, 1) := by decide +kernel
theorem dX2_takeUp_17 : decode cX2_takeUp 17 = .ok (.iadd, 1) := by decide +kernel
theorem dX2_takeUp_18 : decode cX2_takeUp 18 = .ok (.if_icmp .ge 87, 3) := by decide +kernel
theorem dX2_takeUp_21 : decode cX2_takeUp 21 = .ok (.aload_n 0, 1) := by decide +kernel
theorem dX2_takeUp_22 : decode cX2_takeUp 22 = .ok (.getfield 98, 3) := by decide +kernel
theorem dX2_takeUp_25 : decode cX2_takeUp 25 = .ok (.bipush 64, 2) := by decide +kernel
theorem dX2_takeUp_27 : decode cX2_takeUp 27 = .ok (.if_icmp .ge 78, 3) := by decide +kernel
theorem dX2_takeUp_30 : decode cX2_takeUp 30 = .ok (.aload_n 1, 1) := by decide +kernel
theorem dX2_takeUp_31 : decode cX2_takeUp 31 = .ok (.iload 4, 2) := by decide +kernel
theorem dX2_takeUp_33 : decode cX2_takeUp 33 = .ok (.invokevirtual 104, 3) := by decide +kernel
theorem dX2_takeUp_36 : decode cX2_takeUp 36 = .ok (.iconst (-1), 1) := by decide +kernel
theorem dX2_takeUp_37 : decode cX2_takeUp 37 = .ok (.if_icmp .eq 62, 3) := by decide +kernel
theorem dX2_takeUp_40 : decode cX2_takeUp 40 = .ok (.aload_n 0, 1) := by decide +kernel
theorem dX2_takeUp_41 : decode cX2_takeUp 41 = .ok (.getfield 9, 3) := by decide +kernel
theorem dX2_takeUp_44 : decode cX2_takeUp 44 = .ok (.aload_n 0, 1) := by decide +kernel
theorem dX2_takeUp_45 : decode cX2_takeUp 45 = .ok (.getfield 98, 3) := by decide +kernel
theorem dX2_takeUp_48 : decode cX2_takeUp 48 = .ok (.aload_n 1, 1) := by decide +kernel
theorem dX2_takeUp_49 : decode cX2_takeUp 49 = .ok (.iload 4, 2) := by decide +kernel
theorem dX2_takeUp_51 : decode cX2_takeUp 51 = .ok (.invokevirtual 104, 3) := by decide +kernel
theorem dX2_takeUp_54 : decode cX2_takeUp 54 = .ok (.iastore, 1) := by decide +kernel
theorem dX2_takeUp_55 : decode cX2_takeUp 55 = .ok (.aload_n 0, 1) := by decide +kernel
theorem dX2_takeUp_56 : decode cX2_takeUp 56 = .ok (.getfield 15, 3) := by decide +kernel
theorem dX2_takeUp_59 : decode cX2_takeUp 59 = .ok (.aload_n 0, 1) := by decide +kernel
theorem dX2_takeUp_60 : decode cX2_takeUp 60 = .ok (.getfield 98, 3) := by decide +kernel
theorem dX2_takeUp_63 : decode cX2_takeUp 63 = .ok (.aload_n 1, 1) := by decide +kernel
theorem dX2_takeUp_64 : decode cX2_takeUp 64 = .ok (.iload 4, 2) := by decide +kernel
theorem dX2_takeUp_66 : decode cX2_takeUp 66 = .ok (.invokevirtual 78, 3) := by decide +kernel
theorem dX2_takeUp_69 : decode cX2_takeUp 69 = .ok (.iastore, 1) := by decide +kernel
theorem dX2_takeUp_70 : decode cX2_takeUp 70 = .ok (.aload_n 0, 1) := by decide +kernel
theorem dX2_takeUp_71 : decode cX2_takeUp 71 = .ok (.getfield 18, 3) := by decide +kernel
theorem dX2_takeUp_74 : decode cX2_takeUp 74 = .ok (.aload_n 0, 1) := by decide +kernel
theorem dX2_takeUp_75 : decode cX2_takeUp 75 = .ok (.getfield 98, 3) := by decide +kernel
theorem dX2_takeUp_78 : decode cX2_takeUp 78 = .ok (.iload 4, 2) := by decide +kernel
theorem dX2_takeUp_80 : decode cX2_takeUp 80 = .ok (.iastore, 1) := by decide +kernel
theorem dX2_takeUp_81 : decode cX2_takeUp 81 = .ok (.aload_n 0, 1) := by decide +kernel
theorem dX2_takeUp_82 : decode cX2_takeUp 82 = .ok (.dup, 1) := by decide +kernel
theorem dX2_takeUp_83 : decode cX2_takeUp 83 = .ok (.getfield 98, 3) := by decide +kernel
theorem dX2_takeUp_86 : decode cX2_takeUp 86 = .ok (.iconst 1, 1) := by decide +kernel
theorem dX2_takeUp_87 : decode cX2_takeUp 87 = .ok (.iadd, 1) := by decide +kernel
theorem dX2_takeUp_88 : decode cX2_takeUp 88 = .ok (.putfield 98, 3) := by decide +kernel
theorem dX2_takeUp_91 : decode cX2_takeUp 91 = .ok (.aload_n 1, 1) := by decide +kernel
theorem dX2_takeUp_92 : decode cX2_takeUp 92 = .ok (.iload 4, 2) := by decide +kernel
theorem dX2_takeUp_94 : decode cX2_takeUp 94 = .ok (.iconst (-1), 1) := by decide +kernel
theorem dX2_takeUp_95 : decode cX2_takeUp 95 = .ok (.iconst 0, 1) := by decide +kernel
theorem dX2_takeUp_96 : decode cX2_takeUp 96 = .ok (.invokevirtual 81, 3) := by decide +kernel
theorem dX2_takeUp_99 : decode cX2_takeUp 99 = .ok (.iinc 4 1, 3) := by decide +kernel
theorem dX2_takeUp_102 : decode cX2_takeUp 102 = .ok (.goto (-89), 3) := by decide +kernel
theorem dX2_takeUp_105 : decode cX2_takeUp 105 = .ok (.return_, 1) := by decide +kernel
theorem dX2_takeIn_0 : decode cX2_takeIn 0 = .ok (.aload_n 0, 1) := by decide +kernel
theorem dX2_takeIn_1 : decode cX2_takeIn 1 = .ok (.getfield 98, 3) := by decide +kernel
theorem dX2_takeIn_4 : decode cX2_takeIn 4 = .ok (.bipush 64, 2) := by decide +kernel
theorem dX2_takeIn_6 : decode cX2_takeIn 6 = .ok (.if_icmp .lt 4, 3) := by decide +kernel
theorem dX2_takeIn_9 : decode cX2_takeIn 9 = .ok (.return_, 1) := by decide +kernel
theorem dX2_takeIn_10 : decode cX2_takeIn 10 = .ok (.aload_n 0, 1) := by decide +kernel
theorem dX2_takeIn_11 : decode cX2_takeIn 11 = .ok (.getfield 98, 3) := by decide +kernel
theorem dX2_takeIn_14 : decode cX2_takeIn 14 = .ok (.istore_n 3, 1) := by decide +kernel
theorem dX2_takeIn_15 : decode cX2_takeIn 15 = .ok (.iload_n 3, 1) := by decide +kernel
theorem dX2_takeIn_16 : decode cX2_takeIn 16 = .ok (.ifCond .le 63, 3) := by decide +kernel
theorem dX2_takeIn_19 : decode cX2_takeIn 19 = .ok (.aload_n 0, 1) := by decide +kernel
theorem dX2_takeIn_20 : decode cX2_takeIn 20 = .ok (.getfield 9, 3) := by decide +kernel
theorem dX2_takeIn_23 : decode cX2_takeIn 23 = .ok (.iload_n 3, 1) := by decide +kernel
theorem dX2_takeIn_24 : decode cX2_takeIn 24 = .ok (.iconst 1, 1) := by decide +kernel
theorem dX2_takeIn_25 : decode cX2_takeIn 25 = .ok (.isub, 1) := by decide +kernel
theorem dX2_takeIn_26 : decode cX2_takeIn 26 = .ok (.iaload, 1) := by decide +kernel
theorem dX2_takeIn_27 : decode cX2_takeIn 27 = .ok (.iload_n 1, 1) := by decide +kernel
theorem dX2_takeIn_28 : decode cX2_takeIn 28 = .ok (.if_icmp .le 51, 3) := by decide +kernel
theorem dX2_takeIn_31 : decode cX2_takeIn 31 = .ok (.aload_n 0, 1) := by decide +kernel
theorem dX2_takeIn_32 : decode cX2_takeIn 32 = .ok (.getfield 9, 3) := by decide +kernel
theorem dX2_takeIn_35 : decode cX2_takeIn 35 = .ok (.iload_n 3, 1) := by decide +kernel
theorem dX2_takeIn_36 : decode cX2_takeIn 36 = .ok (.aload_n 0, 1) := by decide +kernel
theorem dX2_takeIn_37 : decode cX2_takeIn 37 = .ok (.getfield 9, 3) := by decide +kernel
theorem dX2_takeIn_40 : decode cX2_takeIn 40 = .ok (.iload_n 3, 1) := by decide +kernel
theorem dX2_takeIn_41 : decode cX2_takeIn 41 = .ok (.iconst 1, 1) := by decide +kernel
theorem dX2_takeIn_42 : decode cX2_takeIn 42 = .ok (.isub, 1) := by decide +kernel
theorem dX2_takeIn_43 : decode cX2_takeIn 43 = .ok (.iaload, 1) := by decide +kernel
theorem dX2_takeIn_44 : decode cX2_takeIn 44 = .ok (.iastore, 1) := by decide +kernel
theorem dX2_takeIn_45 : decode cX2_takeIn 45 = .ok (.aload_n 0, 1) := by decide +kernel
theorem dX2_takeIn_46 : decode cX2_takeIn 46 = .ok (.getfield 15, 3) := by decide +kernel
theorem dX2_takeIn_49 : decode cX2_takeIn 49 = .ok (.iload_n 3, 1) := by decide +kernel
theorem dX2_takeIn_50 : decode cX2_takeIn 50 = .ok (.aload_n 0, 1) := by decide +kernel
theorem dX2_takeIn_51 : decode cX2_takeIn 51 = .ok (.getfield 15, 3) := by decide +kernel
theorem dX2_takeIn_54 : decode cX2_takeIn 54 = .ok (.iload_n 3, 1) := by decide +kernel
theorem dX2_takeIn_55 : decode cX2_takeIn 55 = .ok (.iconst 1, 1) := by decide +kernel
theorem dX2_takeIn_56 : decode cX2_takeIn 56 = .ok (.isub, 1) := by decide +kernel
theorem dX2_takeIn_57 : decode cX2_takeIn 57 = .ok (.iaload, 1) := by decide +kernel
theorem dX2_takeIn_58 : decode cX2_takeIn 58 = .ok (.iastore, 1) := by decide +kernel
theorem dX2_takeIn_59 : decode cX2_takeIn 59 = .ok (.aload_n 0, 1) := by decide +kernel
theorem dX2_takeIn_60 : decode cX2_takeIn 60 = .ok (.getfield 18, 3) := by decide +kernel
theorem dX2_takeIn_63 : decode cX2_takeIn 63 = .ok (.iload_n 3, 1) := by decide +kernel
theorem dX2_takeIn_64 : decode cX2_takeIn 64 = .ok (.aload_n 0, 1) := by decide +kernel
theorem dX2_takeIn_65 : decode cX2_takeIn 65 = .ok (.getfield 18, 3) := by decide +kernel
theorem dX2_takeIn_68 : decode cX2_takeIn 68 = .ok (.iload_n 3, 1) := by decide +kernel
theorem dX2_takeIn_69 : decode cX2_takeIn 69 = .ok (.iconst 1, 1) := by decide +kernel
theorem dX2_takeIn_70 : decode cX2_takeIn 70 = .ok (.isub, 1) := by decide +kernel
theorem dX2_takeIn_71 : decode cX2_takeIn 71 = .ok (.iaload, 1) := by decide +kernel
theorem dX2_takeIn_72 : decode cX2_takeIn 72 = .ok (.iastore, 1) := by decide +kernel
theorem dX2_takeIn_73 : decode cX2_takeIn 73 = .ok (.iinc 3 (-1), 3) := by decide +kernel
theorem dX2_takeIn_76 : decode cX2_takeIn 76 = .ok (.goto (-61), 3) := by decide +kernel
theorem dX2_takeIn_79 : decode cX2_takeIn 79 = .ok (.aload_n 0, 1) := by decide +kernel
theorem dX2_takeIn_80 : decode cX2_takeIn 80 = .ok (.getfield 9, 3) := by decide +kernel
theorem dX2_takeIn_83 : decode cX2_takeIn 83 = .ok (.iload_n 3, 1) := by decide +kernel
theorem dX2_takeIn_84 : decode cX2_takeIn 84 = .ok (.iload_n 1, 1) := by decide +kernel
theorem dX2_takeIn_85 : decode cX2_takeIn 85 = .ok (.iastore, 1) := by decide +kernel
theorem dX2_takeIn_86 : decode cX2_takeIn 86 = .ok (.aload_n 0, 1) := by decide +kernel
theorem dX2_takeIn_87 : decode cX2_takeIn 87 = .ok (.getfield 15, 3) := by decide +kernel
theorem dX2_takeIn_90 : decode cX2_takeIn 90 = .ok (.iload_n 3, 1) := by decide +kernel
theorem dX2_takeIn_91 : decode cX2_takeIn 91 = .ok (.iload_n 2, 1) := by decide +kernel
theorem dX2_takeIn_92 : decode cX2_takeIn 92 = .ok (.iastore, 1) := by decide +kernel
theorem dX2_takeIn_93 : decode cX2_takeIn 93 = .ok (.aload_n 0, 1) := by decide +kernel
theorem dX2_takeIn_94 : decode cX2_takeIn 94 = .ok (.getfield 18, 3) := by decide +kernel
theorem dX2_takeIn_97 : decode cX2_takeIn 97 = .ok (.iload_n 3, 1) := by decide +kernel
theorem dX2_takeIn_98 : decode cX2_takeIn 98 = .ok (.iconst (-1), 1) := by decide +kernel
theorem dX2_takeIn_99 : decode cX2_takeIn 99 = .ok (.iastore, 1) := by decide +kernel
theorem dX2_takeIn_100 : decode cX2_takeIn 100 = .ok (.aload_n 0, 1) := by decide +kernel
theorem dX2_takeIn_101 : decode cX2_takeIn 101 = .ok (.iload_n 3, 1) := by decide +kernel
theorem dX2_takeIn_102 : decode cX2_takeIn 102 = .ok (.putfield 101, 3) := by decide +kernel
theorem dX2_takeIn_105 : decode cX2_takeIn 105 = .ok (.aload_n 0, 1) := by decide +kernel
theorem dX2_takeIn_106 : decode cX2_takeIn 106 = .ok (.dup, 1) := by decide +kernel
theorem dX2_takeIn_107 : decode cX2_takeIn 107 = .ok (.getfield 98, 3) := by decide +kernel
theorem dX2_takeIn_110 : decode cX2_takeIn 110 = .ok (.iconst 1, 1) := by decide +kernel
theorem dX2_takeIn_111 : decode cX2_takeIn 111 = .ok (.iadd, 1) := by decide +kernel
theorem dX2_takeIn_112 : decode cX2_takeIn 112 = .ok (.putfield 98, 3) := by decide +kernel
theorem dX2_takeIn_115 : decode cX2_takeIn 115 = .ok (.return_, 1) := by decide +kernel
theorem dX2_layDown_0 : decode cX2_layDown 0 = .ok (.aload_n 1, 1) := by decide +kernel
theorem dX2_layDown_1 : decode cX2_layDown 1 = .ok (.getfield 107, 3) := by decide +kernel
theorem dX2_layDown_4 : decode cX2_layDown 4 = .ok (.iconst 1, 1) := by decide +kernel
theorem dX2_layDown_5 : decode cX2_layDown 5 = .ok (.if_icmp .ne 15, 3) := by decide +kernel
theorem dX2_layDown_8 : decode cX2_layDown 8 = .ok (.aload_n 0, 1) := by decide +kernel
theorem dX2_layDown_9 : decode cX2_layDown 9 = .ok (.getfield 101, 3) := by decide +kernel
theorem dX2_layDown_12 : decode cX2_layDown 12 = .ok (.iconst (-1), 1) := by decide +kernel
theorem dX2_layDown_13 : decode cX2_layDown 13 = .ok (.if_icmp .eq 7, 3) := by decide +kernel
theorem dX2_layDown_16 : decode cX2_layDown 16 = .ok (.iconst 1, 1) := by decide +kernel
theorem dX2_layDown_17 : decode cX2_layDown 17 = .ok (.goto 4, 3) := by decide +kernel
theorem dX2_layDown_20 : decode cX2_layDown 20 = .ok (.iconst 0, 1) := by decide +kernel
theorem dX2_layDown_21 : decode cX2_layDown 21 = .ok (.istore 4, 2) := by decide +kernel
theorem dX2_layDown_23 : decode cX2_layDown 23 = .ok (.iload 4, 2) := by decide +kernel
theorem dX2_layDown_25 : decode cX2_layDown 25 = .ok (.ifCond .eq 14, 3) := by decide +kernel
theorem dX2_layDown_28 : decode cX2_layDown 28 = .ok (.iload_n 3, 1) := by decide +kernel
theorem dX2_layDown_29 : decode cX2_layDown 29 = .ok (.aload_n 0, 1) := by decide +kernel
theorem dX2_layDown_30 : decode cX2_layDown 30 = .ok (.getfield 98, 3) := by decide +kernel
theorem dX2_layDown_33 : decode cX2_layDown 33 = .ok (.isub, 1) := by decide +kernel
theorem dX2_layDown_34 : decode cX2_layDown 34 = .ok (.iconst 2, 1) := by decide +kernel
theorem dX2_layDown_35 : decode cX2_layDown 35 = .ok (.idiv, 1) := by decide +kernel
theorem dX2_layDown_36 : decode cX2_layDown 36 = .ok (.goto 4, 3) := by decide +kernel
theorem dX2_layDown_39 : decode cX2_layDown 39 = .ok (.iconst 0, 1) := by decide +kernel
theorem dX2_layDown_40 : decode cX2_layDown 40 = .ok (.istore 5, 2) := by decide +kernel
theorem dX2_layDown_42 : decode cX2_layDown 42 = .ok (.iconst 0, 1) := by decide +kernel
theorem dX2_layDown_43 : decode cX2_layDown 43 = .ok (.istore 6, 2) := by decide +kernel
theorem dX2_layDown_45 : decode cX2_layDown 45 = .ok (.iconst 0, 1) := by decide +kernel
theorem dX2_layDown_46 : decode cX2_layDown 46 = .ok (.istore 7, 2) := by decide +kernel
theorem dX2_layDown_48 : decode cX2_layDown 48 = .ok (.iload 7, 2) := by decide +kernel
theorem dX2_layDown_50 : decode cX2_layDown 50 = .ok (.aload_n 0, 1) := by decide +kernel
theorem dX2_layDown_51 : decode cX2_layDown 51 = .ok (.getfield 98, 3) := by decide +kernel
theorem dX2_layDown_54 : decode cX2_layDown 54 = .ok (.if_icmp .ge 88, 3) := by decide +kernel
theorem dX2_layDown_57 : decode cX2_layDown 57 = .ok (.iload 7, 2) := by decide +kernel
theorem dX2_layDown_59 : decode cX2_layDown 59 = .ok (.bipush 64, 2) := by decide +kernel
theorem dX2_layDown_61 : decode cX2_layDown 61 = .ok (.if_icmp .ge 81, 3) := by decide +kernel
theorem dX2_layDown_64 : decode cX2_layDown 64 = .ok (.iload_n 2, 1) := by decide +kernel
theorem dX2_layDown_65 : decode cX2_layDown 65 = .ok (.iload 7, 2) := by decide +kernel
theorem dX2_layDown_67 : decode cX2_layDown 67 = .ok (.iload_n 3, 1) := by decide +kernel
theorem dX2_layDown_68 : decode cX2_layDown 68 = .ok (.iload 5, 2) := by decide +kernel
theorem dX2_layDown_70 : decode cX2_layDown 70 = .ok (.isub, 1) := by decide +kernel
theorem dX2_layDown_71 : decode cX2_layDown 71 = .ok (.imul, 1) := by decide +kernel
theorem dX2_layDown_72 : decode cX2_layDown 72 = .ok (.aload_n 0, 1) := by decide +kernel
theorem dX2_layDown_73 : decode cX2_layDown 73 = .ok (.getfield 98, 3) := by decide +kernel
theorem dX2_layDown_76 : decode cX2_layDown 76 = .ok (.idiv, 1) := by decide +kernel
theorem dX2_layDown_77 : decode cX2_layDown 77 = .ok (.iadd, 1) := by decide +kernel
theorem dX2_layDown_78 : decode cX2_layDown 78 = .ok (.istore 8, 2) := by decide +kernel
theorem dX2_layDown_80 : decode cX2_layDown 80 = .ok (.iload 4, 2) := by decide +kernel
theorem dX2_layDown_82 : decode cX2_layDown 82 = .ok (.ifCond .eq 19, 3) := by decide +kernel
theorem dX2_layDown_85 : decode cX2_layDown 85 = .ok (.iload 7, 2) := by decide +kernel
theorem dX2_layDown_87 : decode cX2_layDown 87 = .ok (.aload_n 0, 1) := by decide +kernel
theorem dX2_layDown_88 : decode cX2_layDown 88 = .ok (.getfield 101, 3) := by decide +kernel
theorem dX2_layDown_91 : decode cX2_layDown 91 = .ok (.if_icmp .le 10, 3) := by decide +kernel
theorem dX2_layDown_94 : decode cX2_layDown 94 = .ok (.iload 8, 2) := by decide +kernel
theorem dX2_layDown_96 : decode cX2_layDown 96 = .ok (.iload 5, 2) := by decide +kernel
theorem dX2_layDown_98 : decode cX2_layDown 98 = .ok (.iadd, 1) := by decide +kernel
theorem dX2_layDown_99 : decode cX2_layDown 99 = .ok (.istore 8, 2) := by decide +kernel
theorem dX2_layDown_101 : decode cX2_layDown 101 = .ok (.aload_n 1, 1) := by decide +kernel
theorem dX2_layDown_102 : decode cX2_layDown 102 = .ok (.iload 8, 2) := by decide +kernel
theorem dX2_layDown_104 : decode cX2_layDown 104 = .ok (.aload_n 0, 1) := by decide +kernel
theorem dX2_layDown_105 : decode cX2_layDown 105 = .ok (.getfield 9, 3) := by decide +kernel
theorem dX2_layDown_108 : decode cX2_layDown 108 = .ok (.iload 7, 2) := by decide +kernel
theorem dX2_layDown_110 : decode cX2_layDown 110 = .ok (.iaload, 1) := by decide +kernel
theorem dX2_layDown_111 : decode cX2_layDown 111 = .ok (.aload_n 0, 1) := by decide +kernel
theorem dX2_layDown_112 : decode cX2_layDown 112 = .ok (.getfield 15, 3) := by decide +kernel
theorem dX2_layDown_115 : decode cX2_layDown 115 = .ok (.iload 7, 2) := by decide +kernel
theorem dX2_layDown_117 : decode cX2_layDown 117 = .ok (.iaload, 1) := by decide +kernel
theorem dX2_layDown_118 : decode cX2_layDown 118 = .ok (.invokevirtual 81, 3) := by decide +kernel
theorem dX2_layDown_121 : decode cX2_layDown 121 = .ok (.iload 8, 2) := by decide +kernel
theorem dX2_layDown_123 : decode cX2_layDown 123 = .ok (.aload_n 0, 1) := by decide +kernel
theorem dX2_layDown_124 : decode cX2_layDown 124 = .ok (.getfield 18, 3) := by decide +kernel
theorem dX2_layDown_127 : decode cX2_layDown 127 = .ok (.iload 7, 2) := by decide +kernel
theorem dX2_layDown_129 : decode cX2_layDown 129 = .ok (.iaload, 1) := by decide +kernel
theorem dX2_layDown_130 : decode cX2_layDown 130 = .ok (.if_icmp .eq 6, 3) := by decide +kernel
theorem dX2_layDown_133 : decode cX2_layDown 133 = .ok (.iinc 6 1, 3) := by decide +kernel
theorem dX2_layDown_136 : decode cX2_layDown 136 = .ok (.iinc 7 1, 3) := by decide +kernel
theorem dX2_layDown_139 : decode cX2_layDown 139 = .ok (.goto (-91), 3) := by decide +kernel
theorem dX2_layDown_142 : decode cX2_layDown 142 = .ok (.aload_n 1, 1) := by decide +kernel
theorem dX2_layDown_143 : decode cX2_layDown 143 = .ok (.iload_n 2, 1) := by decide +kernel
theorem dX2_layDown_144 : decode cX2_layDown 144 = .ok (.iload_n 3, 1) := by decide +kernel
theorem dX2_layDown_145 : decode cX2_layDown 145 = .ok (.iload 6, 2) := by decide +kernel
theorem dX2_layDown_147 : decode cX2_layDown 147 = .ok (.invokevirtual 110, 3) := by decide +kernel
theorem dX2_layDown_150 : decode cX2_layDown 150 = .ok (.iload 6, 2) := by decide +kernel
theorem dX2_layDown_152 : decode cX2_layDown 152 = .ok (.ireturn, 1) := by decide +kernel
theorem dX3_init_0 : decode cX3_init 0 = .ok (.aload_n 0, 1) := by decide +kernel
theorem dX3_init_1 : decode cX3_init 1 = .ok (.invokespecial 3, 3) := by decide +kernel
theorem dX3_init_4 : decode cX3_init 4 = .ok (.aload_n 0, 1) := by decide +kernel
theorem dX3_init_5 : decode cX3_init 5 = .ok (.bipush 6, 2) := by decide +kernel
theorem dX3_init_7 : decode cX3_init 7 = .ok (.anewarray 9, 3) := by decide +kernel
theorem dX3_init_10 : decode cX3_init 10 = .ok (.putfield 11, 3) := by decide +kernel
theorem dX3_init_13 : decode cX3_init 13 = .ok (.iconst 0, 1) := by decide +kernel
theorem dX3_init_14 : decode cX3_init 14 = .ok (.istore_n 1, 1) := by decide +kernel
theorem dX3_init_15 : decode cX3_init 15 = .ok (.iload_n 1, 1) := by decide +kernel
theorem dX3_init_16 : decode cX3_init 16 = .ok (.aload_n 0, 1) := by decide +kernel
theorem dX3_init_17 : decode cX3_init 17 = .ok (.getfield 11, 3) := by decide +kernel
theorem dX3_init_20 : decode cX3_init 20 = .ok (.arraylength, 1) := by decide +kernel
theorem dX3_init_21 : decode cX3_init 21 = .ok (.if_icmp .ge 22, 3) := by decide +kernel
theorem dX3_init_24 : decode cX3_init 24 = .ok (.aload_n 0, 1) := by decide +kernel
theorem dX3_init_25 : decode cX3_init 25 = .ok (.getfield 11, 3) := by decide +kernel
theorem dX3_init_28 : decode cX3_init 28 = .ok (.iload_n 1, 1) := by decide +kernel
theorem dX3_init_29 : decode cX3_init 29 = .ok (.new 9, 3) := by decide +kernel
theorem dX3_init_32 : decode cX3_init 32 = .ok (.dup, 1) := by decide +kernel
theorem dX3_init_33 : decode cX3_init 33 = .ok (.invokespecial 17, 3) := by decide +kernel
theorem dX3_init_36 : decode cX3_init 36 = .ok (.aastore, 1) := by decide +kernel
theorem dX3_init_37 : decode cX3_init 37 = .ok (.iinc 1 1, 3) := by decide +kernel
theorem dX3_init_40 : decode cX3_init 40 = .ok (.goto (-25), 3) := by decide +kernel
theorem dX3_init_43 : decode cX3_init 43 = .ok (.return_, 1) := by decide +kernel
theorem dX3_keep_0 : decode cX3_keep 0 = .ok (.aload_n 0, 1) := by decide +kernel
theorem dX3_keep_1 : decode cX3_keep 1 = .ok (.aload_n 1, 1) := by decide +kernel
theorem dX3_keep_2 : decode cX3_keep 2 = .ok (.invokevirtual 18, 3) := by decide +kernel
theorem dX3_keep_5 : decode cX3_keep 5 = .ok (.aload_n 0, 1) := by decide +kernel
theorem dX3_keep_6 : decode cX3_keep 6 = .ok (.invokevirtual 22, 3) := by decide +kernel
theorem dX3_keep_9 : decode cX3_keep 9 = .ok (.return_, 1) := by decide +kernel
theorem dX3_mark_0 : decode cX3_mark 0 = .ok (.aload_n 0, 1) := by decide +kernel
theorem dX3_mark_1 : decode cX3_mark 1 = .ok (.getfield 25, 3) := by decide +kernel
theorem dX3_mark_4 : decode cX3_mark 4 = .ok (.iconst 5, 1) := by decide +kernel
theorem dX3_mark_5 : decode cX3_mark 5 = .ok (.invokestatic 29, 3) := by decide +kernel
theorem dX3_mark_8 : decode cX3_mark 8 = .ok (.ifCond .eq 16, 3) := by decide +kernel
theorem dX3_mark_11 : decode cX3_mark 11 = .ok (.aload_n 0, 1) := by decide +kernel
theorem dX3_mark_12 : decode cX3_mark 12 = .ok (.getfield 11, 3) := by decide +kernel
theorem dX3_mark_15 : decode cX3_mark 15 = .ok (.aload_n 0, 1) := by decide +kernel
theorem dX3_mark_16 : decode cX3_mark 16 = .ok (.getfield 25, 3) := by decide +kernel
theorem dX3_mark_19 : decode cX3_mark 19 = .ok (.aaload, 1) := by decide +kernel
theorem dX3_mark_20 : decode cX3_mark 20 = .ok (.aload_n 1, 1) := by decide +kernel
theorem dX3_mark_21 : decode cX3_mark 21 = .ok (.invokevirtual 33, 3) := by decide +kernel
theorem dX3_mark_24 : decode cX3_mark 24 = .ok (.return_, 1) := by decide +kernel
theorem dX3_returnToMark_0 : decode cX3_returnToMark 0 = .ok (.aload_n 0, 1) := by decide +kernel
theorem dX3_returnToMark_1 : decode cX3_returnToMark 1 = .ok (.getfield 25, 3) := by decide +kernel
theorem dX3_returnToMark_4 : decode cX3_returnToMark 4 = .ok (.iconst 5, 1) := by decide +kernel
theorem dX3_returnToMark_5 : decode cX3_returnToMark 5 = .ok (.invokestatic 29, 3) := by decide +kernel
theorem dX3_returnToMark_8 : decode cX3_returnToMark 8 = .ok (.ifCond .eq 16, 3) := by decide +kernel
theorem dX3_returnToMark_11 : decode cX3_returnToMark 11 = .ok (.aload_n 1, 1) := by decide +kernel
theorem dX3_returnToMark_12 : decode cX3_returnToMark 12 = .ok (.aload_n 0, 1) := by decide +kernel
theorem dX3_returnToMark_13 : decode cX3_returnToMark 13 = .ok (.getfield 11, 3) := by decide +kernel
theorem dX3_returnToMark_16 : decode cX3_returnToMark 16 = .ok (.aload_n 0, 1) := by decide +kernel
theorem dX3_returnToMark_17 : decode cX3_returnToMark 17 = .ok (.getfield 25, 3) := by decide +kernel
theorem dX3_returnToMark_20 : decode cX3_returnToMark 20 = .ok (.aaload, 1) := by decide +kernel
theorem dX3_returnToMark_21 : decode cX3_returnToMark 21 = .ok (.invokevirtual 33, 3) := by decide +kernel
theorem dX3_returnToMark_24 : decode cX3_returnToMark 24 = .ok (.return_, 1) := by decide +kernel
theorem dX3_keepMark_0 : decode cX3_keepMark 0 = .ok (.aload_n 0, 1) := by decide +kernel
theorem dX3_keepMark_1 : decode cX3_keepMark 1 = .ok (.getfield 25, 3) := by decide +kernel
theorem dX3_keepMark_4 : decode cX3_keepMark 4 = .ok (.iconst 5, 1) := by decide +kernel
theorem dX3_keepMark_5 : decode cX3_keepMark 5 = .ok (.if_icmp .ge 14, 3) := by decide +kernel
theorem dX3_keepMark_8 : decode cX3_keepMark 8 = .ok (.aload_n 0, 1) := by decide +kernel
theorem dX3_keepMark_9 : decode cX3_keepMark 9 = .ok (.dup, 1) := by decide +kernel
theorem dX3_keepMark_10 : decode cX3_keepMark 10 = .ok (.getfield 25, 3) := by decide +kernel
theorem dX3_keepMark_13 : decode cX3_keepMark 13 = .ok (.iconst 1, 1) := by decide +kernel
theorem dX3_keepMark_14 : decode cX3_keepMark 14 = .ok (.iadd, 1) := by decide +kernel
theorem dX3_keepMark_15 : decode cX3_keepMark 15 = .ok (.putfield 25, 3) := by decide +kernel
theorem dX3_keepMark_18 : decode cX3_keepMark 18 = .ok (.return_, 1) := by decide +kernel
theorem dX3_keepMark_19 : decode cX3_keepMark 19 = .ok (.aload_n 0, 1) := by decide +kernel
theorem dX3_keepMark_20 : decode cX3_keepMark 20 = .ok (.getfield 11, 3) := by decide +kernel
theorem dX3_keepMark_23 : decode cX3_keepMark 23 = .ok (.iconst 0, 1) := by decide +kernel
theorem dX3_keepMark_24 : decode cX3_keepMark 24 = .ok (.aaload, 1) := by decide +kernel
theorem dX3_keepMark_25 : decode cX3_keepMark 25 = .ok (.astore_n 1, 1) := by decide +kernel
theorem dX3_keepMark_26 : decode cX3_keepMark 26 = .ok (.iconst 0, 1) := by decide +kernel
theorem dX3_keepMark_27 : decode cX3_keepMark 27 = .ok (.istore_n 2, 1) := by decide +kernel
theorem dX3_keepMark_28 : decode cX3_keepMark 28 = .ok (.iload_n 2, 1) := by decide +kernel
theorem dX3_keepMark_29 : decode cX3_keepMark 29 = .ok (.iconst 5, 1) := by decide +kernel
theorem dX3_keepMark_30 : decode cX3_keepMark 30 = .ok (.if_icmp .ge 23, 3) := by decide +kernel
theorem dX3_keepMark_33 : decode cX3_keepMark 33 = .ok (.aload_n 0, 1) := by decide +kernel
theorem dX3_keepMark_34 : decode cX3_keepMark 34 = .ok (.getfield 11, 3) := by decide +kernel
theorem dX3_keepMark_37 : decode cX3_keepMark 37 = .ok (.iload_n 2, 1) := by decide +kernel
theorem dX3_keepMark_38 : decode cX3_keepMark 38 = .ok (.aload_n 0, 1) := by decide +kernel
theorem dX3_keepMark_39 : decode cX3_keepMark 39 = .ok (.getfield 11, 3) := by decide +kernel
theorem dX3_keepMark_42 : decode cX3_keepMark 42 = .ok (.iload_n 2, 1) := by decide +kernel
theorem dX3_keepMark_43 : decode cX3_keepMark 43 = .ok (.iconst 1, 1) := by decide +kernel
theorem dX3_keepMark_44 : decode cX3_keepMark 44 = .ok (.iadd, 1) := by decide +kernel
theorem dX3_keepMark_45 : decode cX3_keepMark 45 = .ok (.aaload, 1) := by decide +kernel
theorem dX3_keepMark_46 : decode cX3_keepMark 46 = .ok (.aastore, 1) := by decide +kernel
theorem dX3_keepMark_47 : decode cX3_keepMark 47 = .ok (.iinc 2 1, 3) := by decide +kernel
theorem dX3_keepMark_50 : decode cX3_keepMark 50 = .ok (.goto (-22), 3) := by decide +kernel
theorem dX3_keepMark_53 : decode cX3_keepMark 53 = .ok (.aload_n 0, 1) := by decide +kernel
theorem dX3_keepMark_54 : decode cX3_keepMark 54 = .ok (.getfield 11, 3) := by decide +kernel
theorem dX3_keepMark_57 : decode cX3_keepMark 57 = .ok (.iconst 5, 1) := by decide +kernel
theorem dX3_keepMark_58 : decode cX3_keepMark 58 = .ok (.aload_n 1, 1) := by decide +kernel
theorem dX3_keepMark_59 : decode cX3_keepMark 59 = .ok (.aastore, 1) := by decide +kernel
theorem dX3_keepMark_60 : decode cX3_keepMark 60 = .ok (.return_, 1) := by decide +kernel
theorem dX3_goBack_0 : decode cX3_goBack 0 = .ok (.aload_n 0, 1) := by decide +kernel
theorem dX3_goBack_1 : decode cX3_goBack 1 = .ok (.getfield 25, 3) := by decide +kernel
theorem dX3_goBack_4 : decode cX3_goBack 4 = .ok (.ifCond .ne 5, 3) := by decide +kernel
theorem dX3_goBack_7 : decode cX3_goBack 7 = .ok (.iconst 0, 1) := by decide +kernel
theorem dX3_goBack_8 : decode cX3_goBack 8 = .ok (.ireturn, 1) := by decide +kernel
theorem dX3_goBack_9 : decode cX3_goBack 9 = .ok (.aload_n 0, 1) := by decide +kernel
theorem dX3_goBack_10 : decode cX3_goBack 10 = .ok (.dup, 1) := by decide +kernel
theorem dX3_goBack_11 : decode cX3_goBack 11 = .ok (.getfield 25, 3) := by decide +kernel
end
section
theorem dX3_goBack_14 : decode cX3_goBack 14 = .ok (.iconst 1, 1) := by decide +kernel
theorem dX3_goBack_15 : decode cX3_goBack 15 = .ok (.isub, 1) := by decide +kernel
theorem dX3_goBack_16 : decode cX3_goBack 16 = .ok (.putfield 25, 3) := by decide +kernel
theorem dX3_goBack_19 : decode cX3_goBack 19 = .ok (.aload_n 0, 1) := by decide +kernel
theorem dX3_goBack_20 : decode cX3_goBack 20 = .ok (.aload_n 1, 1) := by decide +kernel
theorem dX3_goBack_21 : decode cX3_goBack 21 = .ok (.invokevirtual 36, 3) := by decide +kernel
theorem dX3_goBack_24 : decode cX3_goBack 24 = .ok (.iconst 1, 1) := by decide +kernel
theorem dX3_goBack_25 : decode cX3_goBack 25 = .ok (.ireturn, 1) := by decide +kernel
theorem dX4_init_0 : decode cX4_init 0 = .ok (.aload_n 0, 1) := by decide +kernel
theorem dX4_init_1 : decode cX4_init 1 = .ok (.invokespecial 1, 3) := by decide +kernel
theorem dX4_init_4 : decode cX4_init 4 = .ok (.aload_n 0, 1) := by decide +kernel
theorem dX4_init_5 : decode cX4_init 5 = .ok (.new 7, 3) := by decide +kernel
theorem dX4_init_8 : decode cX4_init 8 = .ok (.dup, 1) := by decide +kernel
theorem dX4_init_9 : decode cX4_init 9 = .ok (.invokespecial 9, 3) := by decide +kernel
theorem dX4_init_12 : decode cX4_init 12 = .ok (.putfield 10, 3) := by decide +kernel
theorem dX4_init_15 : decode cX4_init 15 = .ok (.aload_n 0, 1) := by decide +kernel
theorem dX4_init_16 : decode cX4_init 16 = .ok (.new 16, 3) := by decide +kernel
theorem dX4_init_19 : decode cX4_init 19 = .ok (.dup, 1) := by decide +kernel
theorem dX4_init_20 : decode cX4_init 20 = .ok (.invokespecial 18, 3) := by decide +kernel
theorem dX4_init_23 : decode cX4_init 23 = .ok (.putfield 19, 3) := by decide +kernel
theorem dX4_init_26 : decode cX4_init 26 = .ok (.aload_n 0, 1) := by decide +kernel
theorem dX4_init_27 : decode cX4_init 27 = .ok (.new 23, 3) := by decide +kernel
theorem dX4_init_30 : decode cX4_init 30 = .ok (.dup, 1) := by decide +kernel
theorem dX4_init_31 : decode cX4_init 31 = .ok (.invokespecial 25, 3) := by decide +kernel
theorem dX4_init_34 : decode cX4_init 34 = .ok (.putfield 26, 3) := by decide +kernel
theorem dX4_init_37 : decode cX4_init 37 = .ok (.aload_n 0, 1) := by decide +kernel
theorem dX4_init_38 : decode cX4_init 38 = .ok (.new 30, 3) := by decide +kernel
theorem dX4_init_41 : decode cX4_init 41 = .ok (.dup, 1) := by decide +kernel
theorem dX4_init_42 : decode cX4_init 42 = .ok (.invokespecial 32, 3) := by decide +kernel
theorem dX4_init_45 : decode cX4_init 45 = .ok (.putfield 33, 3) := by decide +kernel
theorem dX4_init_48 : decode cX4_init 48 = .ok (.aload_n 0, 1) := by decide +kernel
theorem dX4_init_49 : decode cX4_init 49 = .ok (.bipush 120, 2) := by decide +kernel
theorem dX4_init_51 : decode cX4_init 51 = .ok (.newarray .int, 2) := by decide +kernel
theorem dX4_init_53 : decode cX4_init 53 = .ok (.putfield 37, 3) := by decide +kernel
theorem dX4_init_56 : decode cX4_init 56 = .ok (.aload_n 0, 1) := by decide +kernel
theorem dX4_init_57 : decode cX4_init 57 = .ok (.iconst 0, 1) := by decide +kernel
theorem dX4_init_58 : decode cX4_init 58 = .ok (.putfield 41, 3) := by decide +kernel
theorem dX4_init_61 : decode cX4_init 61 = .ok (.aload_n 0, 1) := by decide +kernel
theorem dX4_init_62 : decode cX4_init 62 = .ok (.iconst 3, 1) := by decide +kernel
theorem dX4_init_63 : decode cX4_init 63 = .ok (.newarray .int, 2) := by decide +kernel
theorem dX4_init_65 : decode cX4_init 65 = .ok (.putfield 45, 3) := by decide +kernel
theorem dX4_init_68 : decode cX4_init 68 = .ok (.return_, 1) := by decide +kernel
theorem dX4_puts_0 : decode cX4_puts 0 = .ok (.aload_n 0, 1) := by decide +kernel
theorem dX4_puts_1 : decode cX4_puts 1 = .ok (.bipush 112, 2) := by decide +kernel
theorem dX4_puts_3 : decode cX4_puts 3 = .ok (.iload_n 1, 1) := by decide +kernel
theorem dX4_puts_4 : decode cX4_puts 4 = .ok (.iload_n 2, 1) := by decide +kernel
theorem dX4_puts_5 : decode cX4_puts 5 = .ok (.invokevirtual 48, 3) := by decide +kernel
theorem dX4_puts_8 : decode cX4_puts 8 = .ok (.ireturn, 1) := by decide +kernel
theorem dX4_takes_0 : decode cX4_takes 0 = .ok (.aload_n 0, 1) := by decide +kernel
theorem dX4_takes_1 : decode cX4_takes 1 = .ok (.bipush 116, 2) := by decide +kernel
theorem dX4_takes_3 : decode cX4_takes 3 = .ok (.iload_n 1, 1) := by decide +kernel
theorem dX4_takes_4 : decode cX4_takes 4 = .ok (.iconst 0, 1) := by decide +kernel
theorem dX4_takes_5 : decode cX4_takes 5 = .ok (.invokevirtual 48, 3) := by decide +kernel
theorem dX4_takes_8 : decode cX4_takes 8 = .ok (.ireturn, 1) := by decide +kernel
theorem dX4_drops_0 : decode cX4_drops 0 = .ok (.aload_n 0, 1) := by decide +kernel
theorem dX4_drops_1 : decode cX4_drops 1 = .ok (.bipush 100, 2) := by decide +kernel
theorem dX4_drops_3 : decode cX4_drops 3 = .ok (.iload_n 1, 1) := by decide +kernel
theorem dX4_drops_4 : decode cX4_drops 4 = .ok (.iload_n 2, 1) := by decide +kernel
theorem dX4_drops_5 : decode cX4_drops 5 = .ok (.invokevirtual 48, 3) := by decide +kernel
theorem dX4_drops_8 : decode cX4_drops 8 = .ok (.ireturn, 1) := by decide +kernel
theorem dX4_mode_0 : decode cX4_mode 0 = .ok (.aload_n 0, 1) := by decide +kernel
theorem dX4_mode_1 : decode cX4_mode 1 = .ok (.bipush 109, 2) := by decide +kernel
theorem dX4_mode_3 : decode cX4_mode 3 = .ok (.iload_n 1, 1) := by decide +kernel
theorem dX4_mode_4 : decode cX4_mode 4 = .ok (.iconst 0, 1) := by decide +kernel
theorem dX4_mode_5 : decode cX4_mode 5 = .ok (.invokevirtual 48, 3) := by decide +kernel
theorem dX4_mode_8 : decode cX4_mode 8 = .ok (.ireturn, 1) := by decide +kernel
theorem dX4_spaces_0 : decode cX4_spaces 0 = .ok (.aload_n 0, 1) := by decide +kernel
theorem dX4_spaces_1 : decode cX4_spaces 1 = .ok (.getfield 26, 3) := by decide +kernel
theorem dX4_spaces_4 : decode cX4_spaces 4 = .ok (.aload_n 0, 1) := by decide +kernel
theorem dX4_spaces_5 : decode cX4_spaces 5 = .ok (.getfield 10, 3) := by decide +kernel
theorem dX4_spaces_8 : decode cX4_spaces 8 = .ok (.invokevirtual 52, 3) := by decide +kernel
theorem dX4_spaces_11 : decode cX4_spaces 11 = .ok (.aload_n 0, 1) := by decide +kernel
theorem dX4_spaces_12 : decode cX4_spaces 12 = .ok (.getfield 19, 3) := by decide +kernel
theorem dX4_spaces_15 : decode cX4_spaces 15 = .ok (.aload_n 0, 1) := by decide +kernel
theorem dX4_spaces_16 : decode cX4_spaces 16 = .ok (.getfield 10, 3) := by decide +kernel
theorem dX4_spaces_19 : decode cX4_spaces 19 = .ok (.iconst 0, 1) := by decide +kernel
theorem dX4_spaces_20 : decode cX4_spaces 20 = .ok (.aload_n 0, 1) := by decide +kernel
theorem dX4_spaces_21 : decode cX4_spaces 21 = .ok (.getfield 10, 3) := by decide +kernel
theorem dX4_spaces_24 : decode cX4_spaces 24 = .ok (.getfield 56, 3) := by decide +kernel
theorem dX4_spaces_27 : decode cX4_spaces 27 = .ok (.invokevirtual 59, 3) := by decide +kernel
theorem dX4_spaces_30 : decode cX4_spaces 30 = .ok (.ireturn, 1) := by decide +kernel
theorem dX4_value_0 : decode cX4_value 0 = .ok (.iload_n 1, 1) := by decide +kernel
theorem dX4_value_1 : decode cX4_value 1 = .ok (.sipush 999, 3) := by decide +kernel
theorem dX4_value_4 : decode cX4_value 4 = .ok (.invokestatic 63, 3) := by decide +kernel
theorem dX4_value_7 : decode cX4_value 7 = .ok (.ifCond .ne 10, 3) := by decide +kernel
theorem dX4_value_10 : decode cX4_value 10 = .ok (.aload_n 0, 1) := by decide +kernel
theorem dX4_value_11 : decode cX4_value 11 = .ok (.bipush (-2), 2) := by decide +kernel
theorem dX4_value_13 : decode cX4_value 13 = .ok (.invokevirtual 67, 3) := by decide +kernel
theorem dX4_value_16 : decode cX4_value 16 = .ok (.ireturn, 1) := by decide +kernel
theorem dX4_value_17 : decode cX4_value 17 = .ok (.aload_n 0, 1) := by decide +kernel
theorem dX4_value_18 : decode cX4_value 18 = .ok (.getfield 10, 3) := by decide +kernel
theorem dX4_value_21 : decode cX4_value 21 = .ok (.iload_n 1, 1) := by decide +kernel
theorem dX4_value_22 : decode cX4_value 22 = .ok (.invokevirtual 71, 3) := by decide +kernel
theorem dX4_value_25 : decode cX4_value 25 = .ok (.istore_n 2, 1) := by decide +kernel
theorem dX4_value_26 : decode cX4_value 26 = .ok (.iload_n 2, 1) := by decide +kernel
theorem dX4_value_27 : decode cX4_value 27 = .ok (.iconst (-1), 1) := by decide +kernel
theorem dX4_value_28 : decode cX4_value 28 = .ok (.if_icmp .ne 12, 3) := by decide +kernel
theorem dX4_value_31 : decode cX4_value 31 = .ok (.aload_n 0, 1) := by decide +kernel
theorem dX4_value_32 : decode cX4_value 32 = .ok (.bipush (-3), 2) := by decide +kernel
theorem dX4_value_34 : decode cX4_value 34 = .ok (.invokevirtual 67, 3) := by decide +kernel
theorem dX4_value_37 : decode cX4_value 37 = .ok (.goto 11, 3) := by decide +kernel
theorem dX4_value_40 : decode cX4_value 40 = .ok (.aload_n 0, 1) := by decide +kernel
theorem dX4_value_41 : decode cX4_value 41 = .ok (.getfield 10, 3) := by decide +kernel
theorem dX4_value_44 : decode cX4_value 44 = .ok (.iload_n 2, 1) := by decide +kernel
theorem dX4_value_45 : decode cX4_value 45 = .ok (.invokevirtual 74, 3) := by decide +kernel
theorem dX4_value_48 : decode cX4_value 48 = .ok (.ireturn, 1) := by decide +kernel
theorem dX4_cell_0 : decode cX4_cell 0 = .ok (.iload_n 1, 1) := by decide +kernel
theorem dX4_cell_1 : decode cX4_cell 1 = .ok (.sipush 999, 3) := by decide +kernel
theorem dX4_cell_4 : decode cX4_cell 4 = .ok (.invokestatic 63, 3) := by decide +kernel
theorem dX4_cell_7 : decode cX4_cell 7 = .ok (.ifCond .eq 14, 3) := by decide +kernel
theorem dX4_cell_10 : decode cX4_cell 10 = .ok (.aload_n 0, 1) := by decide +kernel
theorem dX4_cell_11 : decode cX4_cell 11 = .ok (.getfield 10, 3) := by decide +kernel
theorem dX4_cell_14 : decode cX4_cell 14 = .ok (.iload_n 1, 1) := by decide +kernel
theorem dX4_cell_15 : decode cX4_cell 15 = .ok (.invokevirtual 71, 3) := by decide +kernel
theorem dX4_cell_18 : decode cX4_cell 18 = .ok (.goto 9, 3) := by decide +kernel
theorem dX4_cell_21 : decode cX4_cell 21 = .ok (.aload_n 0, 1) := by decide +kernel
theorem dX4_cell_22 : decode cX4_cell 22 = .ok (.bipush (-2), 2) := by decide +kernel
theorem dX4_cell_24 : decode cX4_cell 24 = .ok (.invokevirtual 67, 3) := by decide +kernel
theorem dX4_cell_27 : decode cX4_cell 27 = .ok (.ireturn, 1) := by decide +kernel
theorem dX4_at_0 : decode cX4_at 0 = .ok (.iload_n 1, 1) := by decide +kernel
theorem dX4_at_1 : decode cX4_at 1 = .ok (.aload_n 0, 1) := by decide +kernel
theorem dX4_at_2 : decode cX4_at 2 = .ok (.getfield 10, 3) := by decide +kernel
theorem dX4_at_5 : decode cX4_at 5 = .ok (.getfield 56, 3) := by decide +kernel
theorem dX4_at_8 : decode cX4_at 8 = .ok (.iconst 1, 1) := by decide +kernel
theorem dX4_at_9 : decode cX4_at 9 = .ok (.isub, 1) := by decide +kernel
theorem dX4_at_10 : decode cX4_at 10 = .ok (.invokestatic 63, 3) := by decide +kernel
theorem dX4_at_13 : decode cX4_at 13 = .ok (.ifCond .eq 14, 3) := by decide +kernel
theorem dX4_at_16 : decode cX4_at 16 = .ok (.aload_n 0, 1) := by decide +kernel
theorem dX4_at_17 : decode cX4_at 17 = .ok (.getfield 10, 3) := by decide +kernel
theorem dX4_at_20 : decode cX4_at 20 = .ok (.iload_n 1, 1) := by decide +kernel
theorem dX4_at_21 : decode cX4_at 21 = .ok (.invokevirtual 77, 3) := by decide +kernel
theorem dX4_at_24 : decode cX4_at 24 = .ok (.goto 9, 3) := by decide +kernel
theorem dX4_at_27 : decode cX4_at 27 = .ok (.aload_n 0, 1) := by decide +kernel
theorem dX4_at_28 : decode cX4_at 28 = .ok (.bipush (-2), 2) := by decide +kernel
theorem dX4_at_30 : decode cX4_at 30 = .ok (.invokevirtual 67, 3) := by decide +kernel
theorem dX4_at_33 : decode cX4_at 33 = .ok (.ireturn, 1) := by decide +kernel
theorem dX4_rank_0 : decode cX4_rank 0 = .ok (.iload_n 1, 1) := by decide +kernel
theorem dX4_rank_1 : decode cX4_rank 1 = .ok (.sipush 1000, 3) := by decide +kernel
theorem dX4_rank_4 : decode cX4_rank 4 = .ok (.invokestatic 63, 3) := by decide +kernel
theorem dX4_rank_7 : decode cX4_rank 7 = .ok (.ifCond .eq 14, 3) := by decide +kernel
theorem dX4_rank_10 : decode cX4_rank 10 = .ok (.aload_n 0, 1) := by decide +kernel
theorem dX4_rank_11 : decode cX4_rank 11 = .ok (.getfield 10, 3) := by decide +kernel
theorem dX4_rank_14 : decode cX4_rank 14 = .ok (.iload_n 1, 1) := by decide +kernel
theorem dX4_rank_15 : decode cX4_rank 15 = .ok (.invokevirtual 80, 3) := by decide +kernel
theorem dX4_rank_18 : decode cX4_rank 18 = .ok (.goto 9, 3) := by decide +kernel
theorem dX4_rank_21 : decode cX4_rank 21 = .ok (.aload_n 0, 1) := by decide +kernel
theorem dX4_rank_22 : decode cX4_rank 22 = .ok (.bipush (-2), 2) := by decide +kernel
theorem dX4_rank_24 : decode cX4_rank 24 = .ok (.invokevirtual 67, 3) := by decide +kernel
theorem dX4_rank_27 : decode cX4_rank 27 = .ok (.ireturn, 1) := by decide +kernel
theorem dX4_key_0 : decode cX4_key 0 = .ok (.iload_n 1, 1) := by decide +kernel
theorem dX4_key_1 : decode cX4_key 1 = .ok (.ifCond .lt 14, 3) := by decide +kernel
theorem dX4_key_4 : decode cX4_key 4 = .ok (.aload_n 0, 1) := by decide +kernel
theorem dX4_key_5 : decode cX4_key 5 = .ok (.getfield 10, 3) := by decide +kernel
theorem dX4_key_8 : decode cX4_key 8 = .ok (.iload_n 1, 1) := by decide +kernel
theorem dX4_key_9 : decode cX4_key 9 = .ok (.invokevirtual 83, 3) := by decide +kernel
theorem dX4_key_12 : decode cX4_key 12 = .ok (.goto 9, 3) := by decide +kernel
theorem dX4_key_15 : decode cX4_key 15 = .ok (.aload_n 0, 1) := by decide +kernel
theorem dX4_key_16 : decode cX4_key 16 = .ok (.bipush (-2), 2) := by decide +kernel
theorem dX4_key_18 : decode cX4_key 18 = .ok (.invokevirtual 67, 3) := by decide +kernel
theorem dX4_key_21 : decode cX4_key 21 = .ok (.ireturn, 1) := by decide +kernel
theorem dX4_scan_0 : decode cX4_scan 0 = .ok (.iload_n 1, 1) := by decide +kernel
theorem dX4_scan_1 : decode cX4_scan 1 = .ok (.iload_n 2, 1) := by decide +kernel
theorem dX4_scan_2 : decode cX4_scan 2 = .ok (.invokestatic 86, 3) := by decide +kernel
theorem dX4_scan_5 : decode cX4_scan 5 = .ok (.ifCond .eq 11, 3) := by decide +kernel
theorem dX4_scan_8 : decode cX4_scan 8 = .ok (.iload_n 3, 1) := by decide +kernel
theorem dX4_scan_9 : decode cX4_scan 9 = .ok (.iconst 2, 1) := by decide +kernel
theorem dX4_scan_10 : decode cX4_scan 10 = .ok (.invokestatic 63, 3) := by decide +kernel
theorem dX4_scan_13 : decode cX4_scan 13 = .ok (.ifCond .ne 10, 3) := by decide +kernel
theorem dX4_scan_16 : decode cX4_scan 16 = .ok (.aload_n 0, 1) := by decide +kernel
theorem dX4_scan_17 : decode cX4_scan 17 = .ok (.bipush (-2), 2) := by decide +kernel
theorem dX4_scan_19 : decode cX4_scan 19 = .ok (.invokevirtual 67, 3) := by decide +kernel
theorem dX4_scan_22 : decode cX4_scan 22 = .ok (.ireturn, 1) := by decide +kernel
theorem dX4_scan_23 : decode cX4_scan 23 = .ok (.iload_n 3, 1) := by decide +kernel
theorem dX4_scan_24 : decode cX4_scan 24 = .ok (.ifCond .ne 23, 3) := by decide +kernel
theorem dX4_scan_27 : decode cX4_scan 27 = .ok (.aload_n 0, 1) := by decide +kernel
theorem dX4_scan_28 : decode cX4_scan 28 = .ok (.getfield 10, 3) := by decide +kernel
theorem dX4_scan_31 : decode cX4_scan 31 = .ok (.iload_n 2, 1) := by decide +kernel
theorem dX4_scan_32 : decode cX4_scan 32 = .ok (.iconst 1, 1) := by decide +kernel
theorem dX4_scan_33 : decode cX4_scan 33 = .ok (.iadd, 1) := by decide +kernel
theorem dX4_scan_34 : decode cX4_scan 34 = .ok (.invokevirtual 80, 3) := by decide +kernel
theorem dX4_scan_37 : decode cX4_scan 37 = .ok (.aload_n 0, 1) := by decide +kernel
theorem dX4_scan_38 : decode cX4_scan 38 = .ok (.getfield 10, 3) := by decide +kernel
theorem dX4_scan_41 : decode cX4_scan 41 = .ok (.iload_n 1, 1) := by decide +kernel
theorem dX4_scan_42 : decode cX4_scan 42 = .ok (.invokevirtual 80, 3) := by decide +kernel
theorem dX4_scan_45 : decode cX4_scan 45 = .ok (.isub, 1) := by decide +kernel
theorem dX4_scan_46 : decode cX4_scan 46 = .ok (.ireturn, 1) := by decide +kernel
theorem dX4_scan_47 : decode cX4_scan 47 = .ok (.iload_n 3, 1) := by decide +kernel
theorem dX4_scan_48 : decode cX4_scan 48 = .ok (.iconst 1, 1) := by decide +kernel
theorem dX4_scan_49 : decode cX4_scan 49 = .ok (.if_icmp .ne 15, 3) := by decide +kernel
theorem dX4_scan_52 : decode cX4_scan 52 = .ok (.aload_n 0, 1) := by decide +kernel
theorem dX4_scan_53 : decode cX4_scan 53 = .ok (.getfield 10, 3) := by decide +kernel
theorem dX4_scan_56 : decode cX4_scan 56 = .ok (.iload_n 1, 1) := by decide +kernel
theorem dX4_scan_57 : decode cX4_scan 57 = .ok (.iload_n 2, 1) := by decide +kernel
theorem dX4_scan_58 : decode cX4_scan 58 = .ok (.invokevirtual 89, 3) := by decide +kernel
theorem dX4_scan_61 : decode cX4_scan 61 = .ok (.goto 12, 3) := by decide +kernel
theorem dX4_scan_64 : decode cX4_scan 64 = .ok (.aload_n 0, 1) := by decide +kernel
theorem dX4_scan_65 : decode cX4_scan 65 = .ok (.getfield 10, 3) := by decide +kernel
theorem dX4_scan_68 : decode cX4_scan 68 = .ok (.iload_n 1, 1) := by decide +kernel
theorem dX4_scan_69 : decode cX4_scan 69 = .ok (.iload_n 2, 1) := by decide +kernel
theorem dX4_scan_70 : decode cX4_scan 70 = .ok (.invokevirtual 93, 3) := by decide +kernel
theorem dX4_scan_73 : decode cX4_scan 73 = .ok (.ireturn, 1) := by decide +kernel
theorem dX4_index_0 : decode cX4_index 0 = .ok (.iload_n 1, 1) := by decide +kernel
theorem dX4_index_1 : decode cX4_index 1 = .ok (.aload_n 0, 1) := by decide +kernel
theorem dX4_index_2 : decode cX4_index 2 = .ok (.getfield 10, 3) := by decide +kernel
theorem dX4_index_5 : decode cX4_index 5 = .ok (.getfield 56, 3) := by decide +kernel
theorem dX4_index_8 : decode cX4_index 8 = .ok (.iconst 4, 1) := by decide +kernel
theorem dX4_index_9 : decode cX4_index 9 = .ok (.idiv, 1) := by decide +kernel
theorem dX4_index_10 : decode cX4_index 10 = .ok (.iconst 1, 1) := by decide +kernel
theorem dX4_index_11 : decode cX4_index 11 = .ok (.isub, 1) := by decide +kernel
theorem dX4_index_12 : decode cX4_index 12 = .ok (.invokestatic 63, 3) := by decide +kernel
theorem dX4_index_15 : decode cX4_index 15 = .ok (.ifCond .eq 14, 3) := by decide +kernel
theorem dX4_index_18 : decode cX4_index 18 = .ok (.aload_n 0, 1) := by decide +kernel
theorem dX4_index_19 : decode cX4_index 19 = .ok (.getfield 10, 3) := by decide +kernel
theorem dX4_index_22 : decode cX4_index 22 = .ok (.iload_n 1, 1) := by decide +kernel
theorem dX4_index_23 : decode cX4_index 23 = .ok (.invokevirtual 96, 3) := by decide +kernel
theorem dX4_index_26 : decode cX4_index 26 = .ok (.goto 9, 3) := by decide +kernel
theorem dX4_index_29 : decode cX4_index 29 = .ok (.aload_n 0, 1) := by decide +kernel
theorem dX4_index_30 : decode cX4_index 30 = .ok (.bipush (-2), 2) := by decide +kernel
theorem dX4_index_32 : decode cX4_index 32 = .ok (.invokevirtual 67, 3) := by decide +kernel
theorem dX4_index_35 : decode cX4_index 35 = .ok (.ireturn, 1) := by decide +kernel
theorem dX4_window_0 : decode cX4_window 0 = .ok (.iload_n 1, 1) := by decide +kernel
theorem dX4_window_1 : decode cX4_window 1 = .ok (.aload_n 0, 1) := by decide +kernel
theorem dX4_window_2 : decode cX4_window 2 = .ok (.getfield 10, 3) := by decide +kernel
theorem dX4_window_5 : decode cX4_window 5 = .ok (.invokevirtual 99, 3) := by decide +kernel
theorem dX4_window_8 : decode cX4_window 8 = .ok (.invokestatic 63, 3) := by decide +kernel
theorem dX4_window_11 : decode cX4_window 11 = .ok (.ifCond .eq 11, 3) := by decide +kernel
theorem dX4_window_14 : decode cX4_window 14 = .ok (.iload_n 3, 1) := by decide +kernel
theorem dX4_window_15 : decode cX4_window 15 = .ok (.iconst 2, 1) := by decide +kernel
theorem dX4_window_16 : decode cX4_window 16 = .ok (.invokestatic 63, 3) := by decide +kernel
theorem dX4_window_19 : decode cX4_window 19 = .ok (.ifCond .ne 10, 3) := by decide +kernel
theorem dX4_window_22 : decode cX4_window 22 = .ok (.aload_n 0, 1) := by decide +kernel
theorem dX4_window_23 : decode cX4_window 23 = .ok (.bipush (-2), 2) := by decide +kernel
theorem dX4_window_25 : decode cX4_window 25 = .ok (.invokevirtual 67, 3) := by decide +kernel
theorem dX4_window_28 : decode cX4_window 28 = .ok (.ireturn, 1) := by decide +kernel
theorem dX4_window_29 : decode cX4_window 29 = .ok (.iload_n 1, 1) := by decide +kernel
theorem dX4_window_30 : decode cX4_window 30 = .ok (.invokestatic 103, 3) := by decide +kernel
theorem dX4_window_33 : decode cX4_window 33 = .ok (.istore 4, 2) := by decide +kernel
theorem dX4_window_35 : decode cX4_window 35 = .ok (.iload_n 2, 1) := by decide +kernel
theorem dX4_window_36 : decode cX4_window 36 = .ok (.aload_n 0, 1) := by decide +kernel
theorem dX4_window_37 : decode cX4_window 37 = .ok (.getfield 10, 3) := by decide +kernel
theorem dX4_window_40 : decode cX4_window 40 = .ok (.getfield 56, 3) := by decide +kernel
theorem dX4_window_43 : decode cX4_window 43 = .ok (.iload 4, 2) := by decide +kernel
theorem dX4_window_45 : decode cX4_window 45 = .ok (.idiv, 1) := by decide +kernel
theorem dX4_window_46 : decode cX4_window 46 = .ok (.iconst 1, 1) := by decide +kernel
theorem dX4_window_47 : decode cX4_window 47 = .ok (.isub, 1) := by decide +kernel
theorem dX4_window_48 : decode cX4_window 48 = .ok (.invokestatic 63, 3) := by decide +kernel
theorem dX4_window_51 : decode cX4_window 51 = .ok (.ifCond .ne 10, 3) := by decide +kernel
theorem dX4_window_54 : decode cX4_window 54 = .ok (.aload_n 0, 1) := by decide +kernel
theorem dX4_window_55 : decode cX4_window 55 = .ok (.bipush (-2), 2) := by decide +kernel
theorem dX4_window_57 : decode cX4_window 57 = .ok (.invokevirtual 67, 3) := by decide +kernel
theorem dX4_window_60 : decode cX4_window 60 = .ok (.ireturn, 1) := by decide +kernel
theorem dX4_window_61 : decode cX4_window 61 = .ok (.iload_n 3, 1) := by decide +kernel
theorem dX4_window_62 : decode cX4_window 62 = .ok (.ifCond .ne 17, 3) := by decide +kernel
theorem dX4_window_65 : decode cX4_window 65 = .ok (.aload_n 0, 1) := by decide +kernel
theorem dX4_window_66 : decode cX4_window 66 = .ok (.getfield 10, 3) := by decide +kernel
theorem dX4_window_69 : decode cX4_window 69 = .ok (.iload_n 2, 1) := by decide +kernel
theorem dX4_window_70 : decode cX4_window 70 = .ok (.iload 4, 2) := by decide +kernel
theorem dX4_window_72 : decode cX4_window 72 = .ok (.imul, 1) := by decide +kernel
theorem dX4_window_73 : decode cX4_window 73 = .ok (.iload 4, 2) := by decide +kernel
theorem dX4_window_75 : decode cX4_window 75 = .ok (.invokevirtual 106, 3) := by decide +kernel
theorem dX4_window_78 : decode cX4_window 78 = .ok (.ireturn, 1) := by decide +kernel
theorem dX4_window_79 : decode cX4_window 79 = .ok (.iload_n 3, 1) := by decide +kernel
theorem dX4_window_80 : decode cX4_window 80 = .ok (.iconst 1, 1) := by decide +kernel
theorem dX4_window_81 : decode cX4_window 81 = .ok (.if_icmp .ne 14, 3) := by decide +kernel
theorem dX4_window_84 : decode cX4_window 84 = .ok (.aload_n 0, 1) := by decide +kernel
theorem dX4_window_85 : decode cX4_window 85 = .ok (.getfield 10, 3) := by decide +kernel
theorem dX4_window_88 : decode cX4_window 88 = .ok (.iload_n 1, 1) := by decide +kernel
theorem dX4_window_89 : decode cX4_window 89 = .ok (.invokevirtual 109, 3) := by decide +kernel
theorem dX4_window_92 : decode cX4_window 92 = .ok (.goto 11, 3) := by decide +kernel
theorem dX4_window_95 : decode cX4_window 95 = .ok (.aload_n 0, 1) := by decide +kernel
theorem dX4_window_96 : decode cX4_window 96 = .ok (.getfield 10, 3) := by decide +kernel
theorem dX4_window_99 : decode cX4_window 99 = .ok (.iload_n 1, 1) := by decide +kernel
theorem dX4_window_100 : decode cX4_window 100 = .ok (.invokevirtual 112, 3) := by decide +kernel
theorem dX4_window_103 : decode cX4_window 103 = .ok (.ireturn, 1) := by decide +kernel
theorem dX4_count_0 : decode cX4_count 0 = .ok (.iload_n 1, 1) := by decide +kernel
theorem dX4_count_1 : decode cX4_count 1 = .ok (.bipush 6, 2) := by decide +kernel
theorem dX4_count_3 : decode cX4_count 3 = .ok (.invokestatic 63, 3) := by decide +kernel
theorem dX4_count_6 : decode cX4_count 6 = .ok (.ifCond .eq 11, 3) := by decide +kernel
theorem dX4_count_9 : decode cX4_count 9 = .ok (.aload_n 0, 1) := by decide +kernel
theorem dX4_count_10 : decode cX4_count 10 = .ok (.iload_n 1, 1) := by decide +kernel
theorem dX4_count_11 : decode cX4_count 11 = .ok (.invokevirtual 115, 3) := by decide +kernel
theorem dX4_count_14 : decode cX4_count 14 = .ok (.goto 9, 3) := by decide +kernel
theorem dX4_count_17 : decode cX4_count 17 = .ok (.aload_n 0, 1) := by decide +kernel
theorem dX4_count_18 : decode cX4_count 18 = .ok (.bipush (-2), 2) := by decide +kernel
theorem dX4_count_20 : decode cX4_count 20 = .ok (.invokevirtual 67, 3) := by decide +kernel
theorem dX4_count_23 : decode cX4_count 23 = .ok (.ireturn, 1) := by decide +kernel
theorem dX4_log_0 : decode cX4_log 0 = .ok (.iload_n 1, 1) := by decide +kernel
theorem dX4_log_1 : decode cX4_log 1 = .ok (.ifCond .lt 11, 3) := by decide +kernel
theorem dX4_log_4 : decode cX4_log 4 = .ok (.iload_n 2, 1) := by decide +kernel
theorem dX4_log_5 : decode cX4_log 5 = .ok (.iconst 2, 1) := by decide +kernel
theorem dX4_log_6 : decode cX4_log 6 = .ok (.invokestatic 63, 3) := by decide +kernel
theorem dX4_log_9 : decode cX4_log 9 = .ok (.ifCond .ne 10, 3) := by decide +kernel
theorem dX4_log_12 : decode cX4_log 12 = .ok (.aload_n 0, 1) := by decide +kernel
theorem dX4_log_13 : decode cX4_log 13 = .ok (.bipush (-2), 2) := by decide +kernel
theorem dX4_log_15 : decode cX4_log 15 = .ok (.invokevirtual 67, 3) := by decide +kernel
theorem dX4_log_18 : decode cX4_log 18 = .ok (.ireturn, 1) := by decide +kernel
theorem dX4_log_19 : decode cX4_log 19 = .ok (.aload_n 0, 1) := by decide +kernel
theorem dX4_log_20 : decode cX4_log 20 = .ok (.getfield 10, 3) := by decide +kernel
theorem dX4_log_23 : decode cX4_log 23 = .ok (.iload_n 1, 1) := by decide +kernel
theorem dX4_log_24 : decode cX4_log 24 = .ok (.iload_n 2, 1) := by decide +kernel
theorem dX4_log_25 : decode cX4_log 25 = .ok (.invokevirtual 118, 3) := by decide +kernel
theorem dX4_log_28 : decode cX4_log 28 = .ok (.ireturn, 1) := by decide +kernel
theorem dX4_type_0 : decode cX4_type 0 = .ok (.iload_n 1, 1) := by decide +kernel
theorem dX4_type_1 : decode cX4_type 1 = .ok (.bipush 127, 2) := by decide +kernel
theorem dX4_type_3 : decode cX4_type 3 = .ok (.invokestatic 63, 3) := by decide +kernel
theorem dX4_type_6 : decode cX4_type 6 = .ok (.ifCond .ne 10, 3) := by decide +kernel
theorem dX4_type_9 : decode cX4_type 9 = .ok (.aload_n 0, 1) := by decide +kernel
theorem dX4_type_10 : decode cX4_type 10 = .ok (.bipush (-2), 2) := by decide +kernel
theorem dX4_type_12 : decode cX4_type 12 = .ok (.invokevirtual 67, 3) := by decide +kernel
theorem dX4_type_15 : decode cX4_type 15 = .ok (.ireturn, 1) := by decide +kernel
theorem dX4_type_16 : decode cX4_type 16 = .ok (.aload_n 0, 1) := by decide +kernel
theorem dX4_type_17 : decode cX4_type 17 = .ok (.getfield 41, 3) := by decide +kernel
theorem dX4_type_20 : decode cX4_type 20 = .ok (.aload_n 0, 1) := by decide +kernel
theorem dX4_type_21 : decode cX4_type 21 = .ok (.getfield 37, 3) := by decide +kernel
theorem dX4_type_24 : decode cX4_type 24 = .ok (.arraylength, 1) := by decide +kernel
theorem dX4_type_25 : decode cX4_type 25 = .ok (.if_icmp .lt 10, 3) := by decide +kernel
theorem dX4_type_28 : decode cX4_type 28 = .ok (.aload_n 0, 1) := by decide +kernel
theorem dX4_type_29 : decode cX4_type 29 = .ok (.bipush (-4), 2) := by decide +kernel
theorem dX4_type_31 : decode cX4_type 31 = .ok (.invokevirtual 67, 3) := by decide +kernel
theorem dX4_type_34 : decode cX4_type 34 = .ok (.ireturn, 1) := by decide +kernel
theorem dX4_type_35 : decode cX4_type 35 = .ok (.aload_n 0, 1) := by decide +kernel
theorem dX4_type_36 : decode cX4_type 36 = .ok (.getfield 37, 3) := by decide +kernel
theorem dX4_type_39 : decode cX4_type 39 = .ok (.aload_n 0, 1) := by decide +kernel
theorem dX4_type_40 : decode cX4_type 40 = .ok (.getfield 41, 3) := by decide +kernel
theorem dX4_type_43 : decode cX4_type 43 = .ok (.iload_n 1, 1) := by decide +kernel
theorem dX4_type_44 : decode cX4_type 44 = .ok (.iastore, 1) := by decide +kernel
theorem dX4_type_45 : decode cX4_type 45 = .ok (.aload_n 0, 1) := by decide +kernel
theorem dX4_type_46 : decode cX4_type 46 = .ok (.dup, 1) := by decide +kernel
theorem dX4_type_47 : decode cX4_type 47 = .ok (.getfield 41, 3) := by decide +kernel
theorem dX4_type_50 : decode cX4_type 50 = .ok (.iconst 1, 1) := by decide +kernel
theorem dX4_type_51 : decode cX4_type 51 = .ok (.iadd, 1) := by decide +kernel
theorem dX4_type_52 : decode cX4_type 52 = .ok (.putfield 41, 3) := by decide +kernel
theorem dX4_type_55 : decode cX4_type 55 = .ok (.aload_n 0, 1) := by decide +kernel
theorem dX4_type_56 : decode cX4_type 56 = .ok (.getfield 41, 3) := by decide +kernel
theorem dX4_type_59 : decode cX4_type 59 = .ok (.ireturn, 1) := by decide +kernel
theorem dX4_clear_0 : decode cX4_clear 0 = .ok (.aload_n 0, 1) := by decide +kernel
theorem dX4_clear_1 : decode cX4_clear 1 = .ok (.getfield 41, 3) := by decide +kernel
theorem dX4_clear_4 : decode cX4_clear 4 = .ok (.istore_n 1, 1) := by decide +kernel
theorem dX4_clear_5 : decode cX4_clear 5 = .ok (.aload_n 0, 1) := by decide +kernel
theorem dX4_clear_6 : decode cX4_clear 6 = .ok (.iconst 0, 1) := by decide +kernel
theorem dX4_clear_7 : decode cX4_clear 7 = .ok (.putfield 41, 3) := by decide +kernel
theorem dX4_clear_10 : decode cX4_clear 10 = .ok (.iload_n 1, 1) := by decide +kernel
theorem dX4_clear_11 : decode cX4_clear 11 = .ok (.ireturn, 1) := by decide +kernel
theorem dX4_does_0 : decode cX4_does 0 = .ok (.aload_n 0, 1) := by decide +kernel
theorem dX4_does_1 : decode cX4_does 1 = .ok (.invokevirtual 121, 3) := by decide +kernel
theorem dX4_does_4 : decode cX4_does 4 = .ok (.istore_n 1, 1) := by decide +kernel
theorem dX4_does_5 : decode cX4_does 5 = .ok (.iload_n 1, 1) := by decide +kernel
theorem dX4_does_6 : decode cX4_does 6 = .ok (.iconst (-1), 1) := by decide +kernel
theorem dX4_does_7 : decode cX4_does 7 = .ok (.if_icmp .eq 8, 3) := by decide +kernel
theorem dX4_does_10 : decode cX4_does 10 = .ok (.bipush (-10), 2) := by decide +kernel
theorem dX4_does_12 : decode cX4_does 12 = .ok (.iload_n 1, 1) := by decide +kernel
theorem dX4_does_13 : decode cX4_does 13 = .ok (.isub, 1) := by decide +kernel
theorem dX4_does_14 : decode cX4_does 14 = .ok (.ireturn, 1) := by decide +kernel
theorem dX4_does_15 : decode cX4_does 15 = .ok (.aload_n 0, 1) := by decide +kernel
theorem dX4_does_16 : decode cX4_does 16 = .ok (.getfield 26, 3) := by decide +kernel
theorem dX4_does_19 : decode cX4_does 19 = .ok (.aload_n 0, 1) := by decide +kernel
theorem dX4_does_20 : decode cX4_does 20 = .ok (.getfield 10, 3) := by decide +kernel
theorem dX4_does_23 : decode cX4_does 23 = .ok (.invokevirtual 124, 3) := by decide +kernel
theorem dX4_does_26 : decode cX4_does 26 = .ok (.iconst 0, 1) := by decide +kernel
theorem dX4_does_27 : decode cX4_does 27 = .ok (.istore_n 2, 1) := by decide +kernel
theorem dX4_does_28 : decode cX4_does 28 = .ok (.aload_n 0, 1) := by decide +kernel
theorem dX4_does_29 : decode cX4_does 29 = .ok (.getfield 33, 3) := by decide +kernel
theorem dX4_does_32 : decode cX4_does 32 = .ok (.invokevirtual 127, 3) := by decide +kernel
theorem dX4_does_35 : decode cX4_does 35 = .ok (.iconst 0, 1) := by decide +kernel
theorem dX4_does_36 : decode cX4_does 36 = .ok (.istore_n 3, 1) := by decide +kernel
theorem dX4_does_37 : decode cX4_does 37 = .ok (.iload_n 3, 1) := by decide +kernel
theorem dX4_does_38 : decode cX4_does 38 = .ok (.aload_n 0, 1) := by decide +kernel
theorem dX4_does_39 : decode cX4_does 39 = .ok (.getfield 41, 3) := by decide +kernel
theorem dX4_does_42 : decode cX4_does 42 = .ok (.if_icmp .ge 112, 3) := by decide +kernel
theorem dX4_does_45 : decode cX4_does 45 = .ok (.iload_n 3, 1) := by decide +kernel
theorem dX4_does_46 : decode cX4_does 46 = .ok (.aload_n 0, 1) := by decide +kernel
theorem dX4_does_47 : decode cX4_does 47 = .ok (.getfield 37, 3) := by decide +kernel
theorem dX4_does_50 : decode cX4_does 50 = .ok (.arraylength, 1) := by decide +kernel
theorem dX4_does_51 : decode cX4_does 51 = .ok (.if_icmp .ge 103, 3) := by decide +kernel
theorem dX4_does_54 : decode cX4_does 54 = .ok (.aload_n 0, 1) := by decide +kernel
theorem dX4_does_55 : decode cX4_does 55 = .ok (.getfield 33, 3) := by decide +kernel
theorem dX4_does_58 : decode cX4_does 58 = .ok (.aload_n 0, 1) := by decide +kernel
theorem dX4_does_59 : decode cX4_does 59 = .ok (.getfield 37, 3) := by decide +kernel
theorem dX4_does_62 : decode cX4_does 62 = .ok (.iload_n 3, 1) := by decide +kernel
theorem dX4_does_63 : decode cX4_does 63 = .ok (.iaload, 1) := by decide +kernel
theorem dX4_does_64 : decode cX4_does 64 = .ok (.invokevirtual 130, 3) := by decide +kernel
theorem dX4_does_67 : decode cX4_does 67 = .ok (.iconst 2, 1) := by decide +kernel
theorem dX4_does_68 : decode cX4_does 68 = .ok (.if_icmp .eq 6, 3) := by decide +kernel
theorem dX4_does_71 : decode cX4_does 71 = .ok (.goto 77, 3) := by decide +kernel
theorem dX4_does_74 : decode cX4_does 74 = .ok (.aload_n 0, 1) := by decide +kernel
theorem dX4_does_75 : decode cX4_does 75 = .ok (.aload_n 0, 1) := by decide +kernel
theorem dX4_does_76 : decode cX4_does 76 = .ok (.getfield 33, 3) := by decide +kernel
theorem dX4_does_79 : decode cX4_does 79 = .ok (.getfield 133, 3) := by decide +kernel
theorem dX4_does_82 : decode cX4_does 82 = .ok (.aload_n 0, 1) := by decide +kernel
theorem dX4_does_83 : decode cX4_does 83 = .ok (.getfield 33, 3) := by decide +kernel
theorem dX4_does_86 : decode cX4_does 86 = .ok (.getfield 136, 3) := by decide +kernel
theorem dX4_does_89 : decode cX4_does 89 = .ok (.aload_n 0, 1) := by decide +kernel
theorem dX4_does_90 : decode cX4_does 90 = .ok (.getfield 33, 3) := by decide +kernel
theorem dX4_does_93 : decode cX4_does 93 = .ok (.getfield 139, 3) := by decide +kernel
theorem dX4_does_96 : decode cX4_does 96 = .ok (.invokevirtual 142, 3) := by decide +kernel
theorem dX4_does_99 : decode cX4_does 99 = .ok (.ifCond .eq 20, 3) := by decide +kernel
theorem dX4_does_102 : decode cX4_does 102 = .ok (.aload_n 0, 1) := by decide +kernel
theorem dX4_does_103 : decode cX4_does 103 = .ok (.getfield 26, 3) := by decide +kernel
theorem dX4_does_106 : decode cX4_does 106 = .ok (.aload_n 0, 1) := by decide +kernel
theorem dX4_does_107 : decode cX4_does 107 = .ok (.getfield 10, 3) := by decide +kernel
theorem dX4_does_110 : decode cX4_does 110 = .ok (.invokevirtual 145, 3) := by decide +kernel
theorem dX4_does_113 : decode cX4_does 113 = .ok (.sipush (-1000), 3) := by decide +kernel
theorem dX4_does_116 : decode cX4_does 116 = .ok (.iload_n 2, 1) := by decide +kernel
theorem dX4_does_117 : decode cX4_does 117 = .ok (.isub, 1) := by decide +kernel
theorem dX4_does_118 : decode cX4_does 118 = .ok (.ireturn, 1) := by decide +kernel
theorem dX4_does_119 : decode cX4_does 119 = .ok (.aload_n 0, 1) := by decide +kernel
theorem dX4_does_120 : decode cX4_does 120 = .ok (.aload_n 0, 1) := by decide +kernel
theorem dX4_does_121 : decode cX4_does 121 = .ok (.getfield 33, 3) := by decide +kernel
theorem dX4_does_124 : decode cX4_does 124 = .ok (.getfield 133, 3) := by decide +kernel
theorem dX4_does_127 : decode cX4_does 127 = .ok (.aload_n 0, 1) := by decide +kernel
theorem dX4_does_128 : decode cX4_does 128 = .ok (.getfield 33, 3) := by decide +kernel
theorem dX4_does_131 : decode cX4_does 131 = .ok (.getfield 136, 3) := by decide +kernel
theorem dX4_does_134 : decode cX4_does 134 = .ok (.aload_n 0, 1) := by decide +kernel
theorem dX4_does_135 : decode cX4_does 135 = .ok (.getfield 33, 3) := by decide +kernel
theorem dX4_does_138 : decode cX4_does 138 = .ok (.getfield 139, 3) := by decide +kernel
theorem dX4_does_141 : decode cX4_does 141 = .ok (.invokevirtual 148, 3) := by decide +kernel
theorem dX4_does_144 : decode cX4_does 144 = .ok (.pop, 1) := by decide +kernel
theorem dX4_does_145 : decode cX4_does 145 = .ok (.iinc 2 1, 3) := by decide +kernel
theorem dX4_does_148 : decode cX4_does 148 = .ok (.iinc 3 1, 3) := by decide +kernel
theorem dX4_does_151 : decode cX4_does 151 = .ok (.goto (-114), 3) := by decide +kernel
theorem dX4_does_154 : decode cX4_does 154 = .ok (.aload_n 0, 1) := by decide +kernel
theorem dX4_does_155 : decode cX4_does 155 = .ok (.getfield 26, 3) := by decide +kernel
theorem dX4_does_158 : decode cX4_does 158 = .ok (.invokevirtual 151, 3) := by decide +kernel
theorem dX4_does_161 : decode cX4_does 161 = .ok (.iload_n 2, 1) := by decide +kernel
theorem dX4_does_162 : decode cX4_does 162 = .ok (.ireturn, 1) := by decide +kernel
theorem dX4_back_0 : decode cX4_back 0 = .ok (.aload_n 0, 1) := by decide +kernel
theorem dX4_back_1 : decode cX4_back 1 = .ok (.getfield 26, 3) := by decide +kernel
theorem dX4_back_4 : decode cX4_back 4 = .ok (.aload_n 0, 1) := by decide +kernel
theorem dX4_back_5 : decode cX4_back 5 = .ok (.getfield 10, 3) := by decide +kernel
theorem dX4_back_8 : decode cX4_back 8 = .ok (.invokevirtual 154, 3) := by decide +kernel
theorem dX4_back_11 : decode cX4_back 11 = .ok (.ifCond .eq 13, 3) := by decide +kernel
theorem dX4_back_14 : decode cX4_back 14 = .ok (.aload_n 0, 1) := by decide +kernel
theorem dX4_back_15 : decode cX4_back 15 = .ok (.getfield 26, 3) := by decide +kernel
theorem dX4_back_18 : decode cX4_back 18 = .ok (.getfield 158, 3) := by decide +kernel
theorem dX4_back_21 : decode cX4_back 21 = .ok (.goto 9, 3) := by decide +kernel
theorem dX4_back_24 : decode cX4_back 24 = .ok (.aload_n 0, 1) := by decide +kernel
theorem dX4_back_25 : decode cX4_back 25 = .ok (.bipush (-3), 2) := by decide +kernel
theorem dX4_back_27 : decode cX4_back 27 = .ok (.invokevirtual 67, 3) := by decide +kernel
theorem dX4_back_30 : decode cX4_back 30 = .ok (.ireturn, 1) := by decide +kernel
theorem dX4_told_0 : decode cX4_told 0 = .ok (.iload_n 1, 1) := by decide +kernel
theorem dX4_told_1 : decode cX4_told 1 = .ok (.iconst 4, 1) := by decide +kernel
theorem dX4_told_2 : decode cX4_told 2 = .ok (.invokestatic 63, 3) := by decide +kernel
theorem dX4_told_5 : decode cX4_told 5 = .ok (.ifCond .eq 11, 3) := by decide +kernel
theorem dX4_told_8 : decode cX4_told 8 = .ok (.aload_n 0, 1) := by decide +kernel
theorem dX4_told_9 : decode cX4_told 9 = .ok (.iload_n 1, 1) := by decide +kernel
theorem dX4_told_10 : decode cX4_told 10 = .ok (.invokevirtual 161, 3) := by decide +kernel
theorem dX4_told_13 : decode cX4_told 13 = .ok (.goto 9, 3) := by decide +kernel
theorem dX4_told_16 : decode cX4_told 16 = .ok (.aload_n 0, 1) := by decide +kernel
theorem dX4_told_17 : decode cX4_told 17 = .ok (.bipush (-2), 2) := by decide +kernel
theorem dX4_told_19 : decode cX4_told 19 = .ok (.invokevirtual 67, 3) := by decide +kernel
theorem dX4_told_22 : decode cX4_told 22 = .ok (.ireturn, 1) := by decide +kernel
theorem dX4_digest_0 : decode cX4_digest 0 = .ok (.ldc2_w 164, 3) := by decide +kernel
theorem dX4_digest_3 : decode cX4_digest 3 = .ok (.lstore_n 1, 1) := by decide +kernel
theorem dX4_digest_4 : decode cX4_digest 4 = .ok (.iconst 0, 1) := by decide +kernel
theorem dX4_digest_5 : decode cX4_digest 5 = .ok (.istore_n 3, 1) := by decide +kernel
theorem dX4_digest_6 : decode cX4_digest 6 = .ok (.iload_n 3, 1) := by decide +kernel
theorem dX4_digest_7 : decode cX4_digest 7 = .ok (.iconst 4, 1) := by decide +kernel
theorem dX4_digest_8 : decode cX4_digest 8 = .ok (.if_icmp .gt 22, 3) := by decide +kernel
theorem dX4_digest_11 : decode cX4_digest 11 = .ok (.ldc2_w 166, 3) := by decide +kernel
theorem dX4_digest_14 : decode cX4_digest 14 = .ok (.lload_n 1, 1) := by decide +kernel
theorem dX4_digest_15 : decode cX4_digest 15 = .ok (.lmul, 1) := by decide +kernel
theorem dX4_digest_16 : decode cX4_digest 16 = .ok (.aload_n 0, 1) := by decide +kernel
theorem dX4_digest_17 : decode cX4_digest 17 = .ok (.iload_n 3, 1) := by decide +kernel
theorem dX4_digest_18 : decode cX4_digest 18 = .ok (.invokevirtual 161, 3) := by decide +kernel
theorem dX4_digest_21 : decode cX4_digest 21 = .ok (.i2l, 1) := by decide +kernel
theorem dX4_digest_22 : decode cX4_digest 22 = .ok (.ladd, 1) := by decide +kernel
theorem dX4_digest_23 : decode cX4_digest 23 = .ok (.lstore_n 1, 1) := by decide +kernel
theorem dX4_digest_24 : decode cX4_digest 24 = .ok (.iinc 3 1, 3) := by decide +kernel
theorem dX4_digest_27 : decode cX4_digest 27 = .ok (.goto (-21), 3) := by decide +kernel
theorem dX4_digest_30 : decode cX4_digest 30 = .ok (.iconst 0, 1) := by decide +kernel
theorem dX4_digest_31 : decode cX4_digest 31 = .ok (.istore_n 3, 1) := by decide +kernel
theorem dX4_digest_32 : decode cX4_digest 32 = .ok (.iload_n 3, 1) := by decide +kernel
theorem dX4_digest_33 : decode cX4_digest 33 = .ok (.bipush 6, 2) := by decide +kernel
theorem dX4_digest_35 : decode cX4_digest 35 = .ok (.if_icmp .gt 22, 3) := by decide +kernel
theorem dX4_digest_38 : decode cX4_digest 38 = .ok (.ldc2_w 166, 3) := by decide +kernel
theorem dX4_digest_41 : decode cX4_digest 41 = .ok (.lload_n 1, 1) := by decide +kernel
theorem dX4_digest_42 : decode cX4_digest 42 = .ok (.lmul, 1) := by decide +kernel
theorem dX4_digest_43 : decode cX4_digest 43 = .ok (.aload_n 0, 1) := by decide +kernel
theorem dX4_digest_44 : decode cX4_digest 44 = .ok (.iload_n 3, 1) := by decide +kernel
theorem dX4_digest_45 : decode cX4_digest 45 = .ok (.invokevirtual 115, 3) := by decide +kernel
theorem dX4_digest_48 : decode cX4_digest 48 = .ok (.i2l, 1) := by decide +kernel
theorem dX4_digest_49 : decode cX4_digest 49 = .ok (.ladd, 1) := by decide +kernel
theorem dX4_digest_50 : decode cX4_digest 50 = .ok (.lstore_n 1, 1) := by decide +kernel
theorem dX4_digest_51 : decode cX4_digest 51 = .ok (.iinc 3 1, 3) := by decide +kernel
theorem dX4_digest_54 : decode cX4_digest 54 = .ok (.goto (-22), 3) := by decide +kernel
theorem dX4_digest_57 : decode cX4_digest 57 = .ok (.iconst 0, 1) := by decide +kernel
theorem dX4_digest_58 : decode cX4_digest 58 = .ok (.istore_n 3, 1) := by decide +kernel
theorem dX4_digest_59 : decode cX4_digest 59 = .ok (.iload_n 3, 1) := by decide +kernel
theorem dX4_digest_60 : decode cX4_digest 60 = .ok (.aload_n 0, 1) := by decide +kernel
theorem dX4_digest_61 : decode cX4_digest 61 = .ok (.getfield 10, 3) := by decide +kernel
theorem dX4_digest_64 : decode cX4_digest 64 = .ok (.getfield 56, 3) := by decide +kernel
theorem dX4_digest_67 : decode cX4_digest 67 = .ok (.if_icmp .ge 53, 3) := by decide +kernel
theorem dX4_digest_70 : decode cX4_digest 70 = .ok (.ldc2_w 166, 3) := by decide +kernel
theorem dX4_digest_73 : decode cX4_digest 73 = .ok (.lload_n 1, 1) := by decide +kernel
theorem dX4_digest_74 : decode cX4_digest 74 = .ok (.lmul, 1) := by decide +kernel
theorem dX4_digest_75 : decode cX4_digest 75 = .ok (.aload_n 0, 1) := by decide +kernel
theorem dX4_digest_76 : decode cX4_digest 76 = .ok (.getfield 10, 3) := by decide +kernel
theorem dX4_digest_79 : decode cX4_digest 79 = .ok (.iload_n 3, 1) := by decide +kernel
theorem dX4_digest_80 : decode cX4_digest 80 = .ok (.invokevirtual 77, 3) := by decide +kernel
theorem dX4_digest_83 : decode cX4_digest 83 = .ok (.i2l, 1) := by decide +kernel
theorem dX4_digest_84 : decode cX4_digest 84 = .ok (.ladd, 1) := by decide +kernel
theorem dX4_digest_85 : decode cX4_digest 85 = .ok (.lstore_n 1, 1) := by decide +kernel
theorem dX4_digest_86 : decode cX4_digest 86 = .ok (.aload_n 0, 1) := by decide +kernel
theorem dX4_digest_87 : decode cX4_digest 87 = .ok (.getfield 10, 3) := by decide +kernel
theorem dX4_digest_90 : decode cX4_digest 90 = .ok (.iload_n 3, 1) := by decide +kernel
theorem dX4_digest_91 : decode cX4_digest 91 = .ok (.invokevirtual 77, 3) := by decide +kernel
theorem dX4_digest_94 : decode cX4_digest 94 = .ok (.iconst (-1), 1) := by decide +kernel
theorem dX4_digest_95 : decode cX4_digest 95 = .ok (.if_icmp .eq 19, 3) := by decide +kernel
theorem dX4_digest_98 : decode cX4_digest 98 = .ok (.ldc2_w 166, 3) := by decide +kernel
theorem dX4_digest_101 : decode cX4_digest 101 = .ok (.lload_n 1, 1) := by decide +kernel
theorem dX4_digest_102 : decode cX4_digest 102 = .ok (.lmul, 1) := by decide +kernel
theorem dX4_digest_103 : decode cX4_digest 103 = .ok (.aload_n 0, 1) := by decide +kernel
theorem dX4_digest_104 : decode cX4_digest 104 = .ok (.getfield 10, 3) := by decide +kernel
theorem dX4_digest_107 : decode cX4_digest 107 = .ok (.iload_n 3, 1) := by decide +kernel
theorem dX4_digest_108 : decode cX4_digest 108 = .ok (.invokevirtual 74, 3) := by decide +kernel
theorem dX4_digest_111 : decode cX4_digest 111 = .ok (.i2l, 1) := by decide +kernel
theorem dX4_digest_112 : decode cX4_digest 112 = .ok (.ladd, 1) := by decide +kernel
theorem dX4_digest_113 : decode cX4_digest 113 = .ok (.lstore_n 1, 1) := by decide +kernel
theorem dX4_digest_114 : decode cX4_digest 114 = .ok (.iinc 3 1, 3) := by decide +kernel
theorem dX4_digest_117 : decode cX4_digest 117 = .ok (.goto (-58), 3) := by decide +kernel
theorem dX4_digest_120 : decode cX4_digest 120 = .ok (.iconst 0, 1) := by decide +kernel
theorem dX4_digest_121 : decode cX4_digest 121 = .ok (.istore_n 3, 1) := by decide +kernel
theorem dX4_digest_122 : decode cX4_digest 122 = .ok (.iload_n 3, 1) := by decide +kernel
theorem dX4_digest_123 : decode cX4_digest 123 = .ok (.aload_n 0, 1) := by decide +kernel
theorem dX4_digest_124 : decode cX4_digest 124 = .ok (.getfield 10, 3) := by decide +kernel
theorem dX4_digest_127 : decode cX4_digest 127 = .ok (.getfield 56, 3) := by decide +kernel
theorem dX4_digest_130 : decode cX4_digest 130 = .ok (.iconst 4, 1) := by decide +kernel
theorem dX4_digest_131 : decode cX4_digest 131 = .ok (.idiv, 1) := by decide +kernel
theorem dX4_digest_132 : decode cX4_digest 132 = .ok (.if_icmp .ge 25, 3) := by decide +kernel
theorem dX4_digest_135 : decode cX4_digest 135 = .ok (.ldc2_w 166, 3) := by decide +kernel
theorem dX4_digest_138 : decode cX4_digest 138 = .ok (.lload_n 1, 1) := by decide +kernel
theorem dX4_digest_139 : decode cX4_digest 139 = .ok (.lmul, 1) := by decide +kernel
theorem dX4_digest_140 : decode cX4_digest 140 = .ok (.aload_n 0, 1) := by decide +kernel
theorem dX4_digest_141 : decode cX4_digest 141 = .ok (.getfield 10, 3) := by decide +kernel
theorem dX4_digest_144 : decode cX4_digest 144 = .ok (.iload_n 3, 1) := by decide +kernel
theorem dX4_digest_145 : decode cX4_digest 145 = .ok (.invokevirtual 96, 3) := by decide +kernel
theorem dX4_digest_148 : decode cX4_digest 148 = .ok (.i2l, 1) := by decide +kernel
theorem dX4_digest_149 : decode cX4_digest 149 = .ok (.ladd, 1) := by decide +kernel
theorem dX4_digest_150 : decode cX4_digest 150 = .ok (.lstore_n 1, 1) := by decide +kernel
theorem dX4_digest_151 : decode cX4_digest 151 = .ok (.iinc 3 1, 3) := by decide +kernel
theorem dX4_digest_154 : decode cX4_digest 154 = .ok (.goto (-32), 3) := by decide +kernel
theorem dX4_digest_157 : decode cX4_digest 157 = .ok (.iconst 0, 1) := by decide +kernel
theorem dX4_digest_158 : decode cX4_digest 158 = .ok (.istore_n 3, 1) := by decide +kernel
theorem dX4_digest_159 : decode cX4_digest 159 = .ok (.iload_n 3, 1) := by decide +kernel
theorem dX4_digest_160 : decode cX4_digest 160 = .ok (.aload_n 0, 1) := by decide +kernel
theorem dX4_digest_161 : decode cX4_digest 161 = .ok (.getfield 10, 3) := by decide +kernel
theorem dX4_digest_164 : decode cX4_digest 164 = .ok (.getfield 168, 3) := by decide +kernel
theorem dX4_digest_167 : decode cX4_digest 167 = .ok (.if_icmp .ge 42, 3) := by decide +kernel
theorem dX4_digest_170 : decode cX4_digest 170 = .ok (.iconst 0, 1) := by decide +kernel
theorem dX4_digest_171 : decode cX4_digest 171 = .ok (.istore 4, 2) := by decide +kernel
theorem dX4_digest_173 : decode cX4_digest 173 = .ok (.iload 4, 2) := by decide +kernel
theorem dX4_digest_175 : decode cX4_digest 175 = .ok (.iconst 2, 1) := by decide +kernel
theorem dX4_digest_176 : decode cX4_digest 176 = .ok (.if_icmp .gt 27, 3) := by decide +kernel
theorem dX4_digest_179 : decode cX4_digest 179 = .ok (.ldc2_w 166, 3) := by decide +kernel
theorem dX4_digest_182 : decode cX4_digest 182 = .ok (.lload_n 1, 1) := by decide +kernel
theorem dX4_digest_183 : decode cX4_digest 183 = .ok (.lmul, 1) := by decide +kernel
theorem dX4_digest_184 : decode cX4_digest 184 = .ok (.aload_n 0, 1) := by decide +kernel
theorem dX4_digest_185 : decode cX4_digest 185 = .ok (.getfield 10, 3) := by decide +kernel
theorem dX4_digest_188 : decode cX4_digest 188 = .ok (.iload_n 3, 1) := by decide +kernel
theorem dX4_digest_189 : decode cX4_digest 189 = .ok (.iload 4, 2) := by decide +kernel
theorem dX4_digest_191 : decode cX4_digest 191 = .ok (.invokevirtual 118, 3) := by decide +kernel
theorem dX4_digest_194 : decode cX4_digest 194 = .ok (.i2l, 1) := by decide +kernel
theorem dX4_digest_195 : decode cX4_digest 195 = .ok (.ladd, 1) := by decide +kernel
theorem dX4_digest_196 : decode cX4_digest 196 = .ok (.lstore_n 1, 1) := by decide +kernel
theorem dX4_digest_197 : decode cX4_digest 197 = .ok (.iinc 4 1, 3) := by decide +kernel
theorem dX4_digest_200 : decode cX4_digest 200 = .ok (.goto (-27), 3) := by decide +kernel
theorem dX4_digest_203 : decode cX4_digest 203 = .ok (.iinc 3 1, 3) := by decide +kernel
theorem dX4_digest_206 : decode cX4_digest 206 = .ok (.goto (-47), 3) := by decide +kernel
theorem dX4_digest_209 : decode cX4_digest 209 = .ok (.lload_n 1, 1) := by decide +kernel
theorem dX4_digest_210 : decode cX4_digest 210 = .ok (.lreturn, 1) := by decide +kernel
theorem dX4_call_0 : decode cX4_call 0 = .ok (.aload_n 0, 1) := by decide +kernel
theorem dX4_call_1 : decode cX4_call 1 = .ok (.iload_n 1, 1) := by decide +kernel
theorem dX4_call_2 : decode cX4_call 2 = .ok (.iload_n 2, 1) := by decide +kernel
theorem dX4_call_3 : decode cX4_call 3 = .ok (.iload_n 3, 1) := by decide +kernel
theorem dX4_call_4 : decode cX4_call 4 = .ok (.invokevirtual 142, 3) := by decide +kernel
theorem dX4_call_7 : decode cX4_call 7 = .ok (.istore 4, 2) := by decide +kernel
theorem dX4_call_9 : decode cX4_call 9 = .ok (.iload 4, 2) := by decide +kernel
theorem dX4_call_11 : decode cX4_call 11 = .ok (.ifCond .eq 10, 3) := by decide +kernel
theorem dX4_call_14 : decode cX4_call 14 = .ok (.aload_n 0, 1) := by decide +kernel
theorem dX4_call_15 : decode cX4_call 15 = .ok (.iload 4, 2) := by decide +kernel
theorem dX4_call_17 : decode cX4_call 17 = .ok (.invokevirtual 67, 3) := by decide +kernel
theorem dX4_call_20 : decode cX4_call 20 = .ok (.ireturn, 1) := by decide +kernel
theorem dX4_call_21 : decode cX4_call 21 = .ok (.aload_n 0, 1) := by decide +kernel
theorem dX4_call_22 : decode cX4_call 22 = .ok (.getfield 26, 3) := by decide +kernel
theorem dX4_call_25 : decode cX4_call 25 = .ok (.aload_n 0, 1) := by decide +kernel
theorem dX4_call_26 : decode cX4_call 26 = .ok (.getfield 10, 3) := by decide +kernel
theorem dX4_call_29 : decode cX4_call 29 = .ok (.invokevirtual 52, 3) := by decide +kernel
theorem dX4_call_32 : decode cX4_call 32 = .ok (.aload_n 0, 1) := by decide +kernel
theorem dX4_call_33 : decode cX4_call 33 = .ok (.iload_n 1, 1) := by decide +kernel
theorem dX4_call_34 : decode cX4_call 34 = .ok (.iload_n 2, 1) := by decide +kernel
theorem dX4_call_35 : decode cX4_call 35 = .ok (.iload_n 3, 1) := by decide +kernel
theorem dX4_call_36 : decode cX4_call 36 = .ok (.invokevirtual 148, 3) := by decide +kernel
theorem dX4_call_39 : decode cX4_call 39 = .ok (.ireturn, 1) := by decide +kernel
theorem dX4_refusalOf_0 : decode cX4_refusalOf 0 = .ok (.iload_n 1, 1) := by decide +kernel
theorem dX4_refusalOf_1 : decode cX4_refusalOf 1 = .ok (.lookupswitch 157 #[(100, 127), (109, 142), (112, 43), (116, 95)], 43) := by decide +kernel
theorem dX4_refusalOf_44 : decode cX4_refusalOf 44 = .ok (.iload_n 2, 1) := by decide +kernel
theorem dX4_refusalOf_45 : decode cX4_refusalOf 45 = .ok (.sipush 999, 3) := by decide +kernel
theorem dX4_refusalOf_48 : decode cX4_refusalOf 48 = .ok (.invokestatic 63, 3) := by decide +kernel
theorem dX4_refusalOf_51 : decode cX4_refusalOf 51 = .ok (.ifCond .eq 12, 3) := by decide +kernel
theorem dX4_refusalOf_54 : decode cX4_refusalOf 54 = .ok (.iload_n 3, 1) := by decide +kernel
theorem dX4_refusalOf_55 : decode cX4_refusalOf 55 = .ok (.bipush 99, 2) := by decide +kernel
theorem dX4_refusalOf_57 : decode cX4_refusalOf 57 = .ok (.invokestatic 63, 3) := by decide +kernel
theorem dX4_refusalOf_60 : decode cX4_refusalOf 60 = .ok (.ifCond .ne 6, 3) := by decide +kernel
theorem dX4_refusalOf_63 : decode cX4_refusalOf 63 = .ok (.bipush (-2), 2) := by decide +kernel
theorem dX4_refusalOf_65 : decode cX4_refusalOf 65 = .ok (.ireturn, 1) := by decide +kernel
theorem dX4_refusalOf_66 : decode cX4_refusalOf 66 = .ok (.aload_n 0, 1) := by decide +kernel
theorem dX4_refusalOf_67 : decode cX4_refusalOf 67 = .ok (.getfield 10, 3) := by decide +kernel
theorem dX4_refusalOf_70 : decode cX4_refusalOf 70 = .ok (.iload_n 2, 1) := by decide +kernel
theorem dX4_refusalOf_71 : decode cX4_refusalOf 71 = .ok (.invokevirtual 71, 3) := by decide +kernel
theorem dX4_refusalOf_74 : decode cX4_refusalOf 74 = .ok (.iconst (-1), 1) := by decide +kernel
theorem dX4_refusalOf_75 : decode cX4_refusalOf 75 = .ok (.if_icmp .ne 14, 3) := by decide +kernel
theorem dX4_refusalOf_78 : decode cX4_refusalOf 78 = .ok (.aload_n 0, 1) := by decide +kernel
theorem dX4_refusalOf_79 : decode cX4_refusalOf 79 = .ok (.getfield 10, 3) := by decide +kernel
theorem dX4_refusalOf_82 : decode cX4_refusalOf 82 = .ok (.iload_n 2, 1) := by decide +kernel
theorem dX4_refusalOf_83 : decode cX4_refusalOf 83 = .ok (.invokestatic 171, 3) := by decide +kernel
theorem dX4_refusalOf_86 : decode cX4_refusalOf 86 = .ok (.ifCond .eq 7, 3) := by decide +kernel
theorem dX4_refusalOf_89 : decode cX4_refusalOf 89 = .ok (.iconst 0, 1) := by decide +kernel
theorem dX4_refusalOf_90 : decode cX4_refusalOf 90 = .ok (.goto 5, 3) := by decide +kernel
theorem dX4_refusalOf_93 : decode cX4_refusalOf 93 = .ok (.bipush (-4), 2) := by decide +kernel
theorem dX4_refusalOf_95 : decode cX4_refusalOf 95 = .ok (.ireturn, 1) := by decide +kernel
theorem dX4_refusalOf_96 : decode cX4_refusalOf 96 = .ok (.iload_n 2, 1) := by decide +kernel
theorem dX4_refusalOf_97 : decode cX4_refusalOf 97 = .ok (.sipush 999, 3) := by decide +kernel
theorem dX4_refusalOf_100 : decode cX4_refusalOf 100 = .ok (.invokestatic 63, 3) := by decide +kernel
theorem dX4_refusalOf_103 : decode cX4_refusalOf 103 = .ok (.ifCond .ne 6, 3) := by decide +kernel
theorem dX4_refusalOf_106 : decode cX4_refusalOf 106 = .ok (.bipush (-2), 2) := by decide +kernel
theorem dX4_refusalOf_108 : decode cX4_refusalOf 108 = .ok (.ireturn, 1) := by decide +kernel
theorem dX4_refusalOf_109 : decode cX4_refusalOf 109 = .ok (.aload_n 0, 1) := by decide +kernel
theorem dX4_refusalOf_110 : decode cX4_refusalOf 110 = .ok (.getfield 10, 3) := by decide +kernel
theorem dX4_refusalOf_113 : decode cX4_refusalOf 113 = .ok (.iload_n 2, 1) := by decide +kernel
theorem dX4_refusalOf_114 : decode cX4_refusalOf 114 = .ok (.invokevirtual 71, 3) := by decide +kernel
theorem dX4_refusalOf_117 : decode cX4_refusalOf 117 = .ok (.iconst (-1), 1) := by decide +kernel
theorem dX4_refusalOf_118 : decode cX4_refusalOf 118 = .ok (.if_icmp .eq 7, 3) := by decide +kernel
theorem dX4_refusalOf_121 : decode cX4_refusalOf 121 = .ok (.iconst 0, 1) := by decide +kernel
theorem dX4_refusalOf_122 : decode cX4_refusalOf 122 = .ok (.goto 5, 3) := by decide +kernel
theorem dX4_refusalOf_125 : decode cX4_refusalOf 125 = .ok (.bipush (-3), 2) := by decide +kernel
theorem dX4_refusalOf_127 : decode cX4_refusalOf 127 = .ok (.ireturn, 1) := by decide +kernel
theorem dX4_refusalOf_128 : decode cX4_refusalOf 128 = .ok (.iload_n 2, 1) := by decide +kernel
theorem dX4_refusalOf_129 : decode cX4_refusalOf 129 = .ok (.iload_n 3, 1) := by decide +kernel
theorem dX4_refusalOf_130 : decode cX4_refusalOf 130 = .ok (.invokestatic 86, 3) := by decide +kernel
theorem dX4_refusalOf_133 : decode cX4_refusalOf 133 = .ok (.ifCond .eq 7, 3) := by decide +kernel
theorem dX4_refusalOf_136 : decode cX4_refusalOf 136 = .ok (.iconst 0, 1) := by decide +kernel
theorem dX4_refusalOf_137 : decode cX4_refusalOf 137 = .ok (.goto 5, 3) := by decide +kernel
theorem dX4_refusalOf_140 : decode cX4_refusalOf 140 = .ok (.bipush (-2), 2) := by decide +kernel
theorem dX4_refusalOf_142 : decode cX4_refusalOf 142 = .ok (.ireturn, 1) := by decide +kernel
theorem dX4_refusalOf_143 : decode cX4_refusalOf 143 = .ok (.iload_n 2, 1) := by decide +kernel
theorem dX4_refusalOf_144 : decode cX4_refusalOf 144 = .ok (.iconst 1, 1) := by decide +kernel
theorem dX4_refusalOf_145 : decode cX4_refusalOf 145 = .ok (.invokestatic 63, 3) := by decide +kernel
theorem dX4_refusalOf_148 : decode cX4_refusalOf 148 = .ok (.ifCond .eq 7, 3) := by decide +kernel
theorem dX4_refusalOf_151 : decode cX4_refusalOf 151 = .ok (.iconst 0, 1) := by decide +kernel
theorem dX4_refusalOf_152 : decode cX4_refusalOf 152 = .ok (.goto 5, 3) := by decide +kernel
theorem dX4_refusalOf_155 : decode cX4_refusalOf 155 = .ok (.bipush (-2), 2) := by decide +kernel
theorem dX4_refusalOf_157 : decode cX4_refusalOf 157 = .ok (.ireturn, 1) := by decide +kernel
theorem dX4_refusalOf_158 : decode cX4_refusalOf 158 = .ok (.bipush (-2), 2) := by decide +kernel
theorem dX4_refusalOf_160 : decode cX4_refusalOf 160 = .ok (.ireturn, 1) := by decide +kernel
theorem dX4_carryOut_0 : decode cX4_carryOut 0 = .ok (.iload_n 1, 1) := by decide +kernel
theorem dX4_carryOut_1 : decode cX4_carryOut 1 = .ok (.lookupswitch 69 #[(100, 62), (112, 35), (116, 42)], 35) := by decide +kernel
theorem dX4_carryOut_36 : decode cX4_carryOut 36 = .ok (.aload_n 0, 1) := by decide +kernel
theorem dX4_carryOut_37 : decode cX4_carryOut 37 = .ok (.iload_n 2, 1) := by decide +kernel
theorem dX4_carryOut_38 : decode cX4_carryOut 38 = .ok (.iload_n 3, 1) := by decide +kernel
theorem dX4_carryOut_39 : decode cX4_carryOut 39 = .ok (.invokevirtual 175, 3) := by decide +kernel
theorem dX4_carryOut_42 : decode cX4_carryOut 42 = .ok (.ireturn, 1) := by decide +kernel
theorem dX4_carryOut_43 : decode cX4_carryOut 43 = .ok (.aload_n 0, 1) := by decide +kernel
theorem dX4_carryOut_44 : decode cX4_carryOut 44 = .ok (.getfield 19, 3) := by decide +kernel
theorem dX4_carryOut_47 : decode cX4_carryOut 47 = .ok (.aload_n 0, 1) := by decide +kernel
theorem dX4_carryOut_48 : decode cX4_carryOut 48 = .ok (.getfield 10, 3) := by decide +kernel
theorem dX4_carryOut_51 : decode cX4_carryOut 51 = .ok (.aload_n 0, 1) := by decide +kernel
theorem dX4_carryOut_52 : decode cX4_carryOut 52 = .ok (.getfield 10, 3) := by decide +kernel
theorem dX4_carryOut_55 : decode cX4_carryOut 55 = .ok (.iload_n 2, 1) := by decide +kernel
theorem dX4_carryOut_56 : decode cX4_carryOut 56 = .ok (.invokevirtual 71, 3) := by decide +kernel
theorem dX4_carryOut_59 : decode cX4_carryOut 59 = .ok (.invokevirtual 178, 3) := by decide +kernel
theorem dX4_carryOut_62 : decode cX4_carryOut 62 = .ok (.ireturn, 1) := by decide +kernel
theorem dX4_carryOut_63 : decode cX4_carryOut 63 = .ok (.aload_n 0, 1) := by decide +kernel
theorem dX4_carryOut_64 : decode cX4_carryOut 64 = .ok (.iload_n 2, 1) := by decide +kernel
theorem dX4_carryOut_65 : decode cX4_carryOut 65 = .ok (.iload_n 3, 1) := by decide +kernel
theorem dX4_carryOut_66 : decode cX4_carryOut 66 = .ok (.invokevirtual 182, 3) := by decide +kernel
theorem dX4_carryOut_69 : decode cX4_carryOut 69 = .ok (.ireturn, 1) := by decide +kernel
theorem dX4_carryOut_70 : decode cX4_carryOut 70 = .ok (.aload_n 0, 1) := by decide +kernel
theorem dX4_carryOut_71 : decode cX4_carryOut 71 = .ok (.iload_n 2, 1) := by decide +kernel
theorem dX4_carryOut_72 : decode cX4_carryOut 72 = .ok (.invokevirtual 185, 3) := by decide +kernel
theorem dX4_carryOut_75 : decode cX4_carryOut 75 = .ok (.ireturn, 1) := by decide +kernel
theorem dX4_turnMode_0 : decode cX4_turnMode 0 = .ok (.aload_n 0, 1) := by decide +kernel
theorem dX4_turnMode_1 : decode cX4_turnMode 1 = .ok (.getfield 10, 3) := by decide +kernel
theorem dX4_turnMode_4 : decode cX4_turnMode 4 = .ok (.getfield 188, 3) := by decide +kernel
theorem dX4_turnMode_7 : decode cX4_turnMode 7 = .ok (.istore_n 2, 1) := by decide +kernel
theorem dX4_turnMode_8 : decode cX4_turnMode 8 = .ok (.aload_n 0, 1) := by decide +kernel
theorem dX4_turnMode_9 : decode cX4_turnMode 9 = .ok (.getfield 10, 3) := by decide +kernel
theorem dX4_turnMode_12 : decode cX4_turnMode 12 = .ok (.iload_n 1, 1) := by decide +kernel
theorem dX4_turnMode_13 : decode cX4_turnMode 13 = .ok (.putfield 188, 3) := by decide +kernel
theorem dX4_turnMode_16 : decode cX4_turnMode 16 = .ok (.iload_n 2, 1) := by decide +kernel
theorem dX4_turnMode_17 : decode cX4_turnMode 17 = .ok (.ireturn, 1) := by decide +kernel
theorem dX4_putKey_0 : decode cX4_putKey 0 = .ok (.aload_n 0, 1) := by decide +kernel
theorem dX4_putKey_1 : decode cX4_putKey 1 = .ok (.getfield 10, 3) := by decide +kernel
theorem dX4_putKey_4 : decode cX4_putKey 4 = .ok (.iload_n 1, 1) := by decide +kernel
theorem dX4_putKey_5 : decode cX4_putKey 5 = .ok (.invokevirtual 71, 3) := by decide +kernel
theorem dX4_putKey_8 : decode cX4_putKey 8 = .ok (.istore_n 3, 1) := by decide +kernel
theorem dX4_putKey_9 : decode cX4_putKey 9 = .ok (.iload_n 3, 1) := by decide +kernel
theorem dX4_putKey_10 : decode cX4_putKey 10 = .ok (.iconst (-1), 1) := by decide +kernel
theorem dX4_putKey_11 : decode cX4_putKey 11 = .ok (.if_icmp .ne 17, 3) := by decide +kernel
theorem dX4_putKey_14 : decode cX4_putKey 14 = .ok (.aload_n 0, 1) := by decide +kernel
theorem dX4_putKey_15 : decode cX4_putKey 15 = .ok (.getfield 19, 3) := by decide +kernel
theorem dX4_putKey_18 : decode cX4_putKey 18 = .ok (.aload_n 0, 1) := by decide +kernel
theorem dX4_putKey_19 : decode cX4_putKey 19 = .ok (.getfield 10, 3) := by decide +kernel
theorem dX4_putKey_22 : decode cX4_putKey 22 = .ok (.iload_n 1, 1) := by decide +kernel
theorem dX4_putKey_23 : decode cX4_putKey 23 = .ok (.iload_n 2, 1) := by decide +kernel
theorem dX4_putKey_24 : decode cX4_putKey 24 = .ok (.invokevirtual 191, 3) := by decide +kernel
theorem dX4_putKey_27 : decode cX4_putKey 27 = .ok (.ireturn, 1) := by decide +kernel
theorem dX4_putKey_28 : decode cX4_putKey 28 = .ok (.aload_n 0, 1) := by decide +kernel
theorem dX4_putKey_29 : decode cX4_putKey 29 = .ok (.getfield 10, 3) := by decide +kernel
theorem dX4_putKey_32 : decode cX4_putKey 32 = .ok (.iload_n 3, 1) := by decide +kernel
theorem dX4_putKey_33 : decode cX4_putKey 33 = .ok (.invokevirtual 74, 3) := by decide +kernel
theorem dX4_putKey_36 : decode cX4_putKey 36 = .ok (.istore 4, 2) := by decide +kernel
theorem dX4_putKey_38 : decode cX4_putKey 38 = .ok (.aload_n 0, 1) := by decide +kernel
theorem dX4_putKey_39 : decode cX4_putKey 39 = .ok (.getfield 10, 3) := by decide +kernel
theorem dX4_putKey_42 : decode cX4_putKey 42 = .ok (.iload_n 3, 1) := by decide +kernel
theorem dX4_putKey_43 : decode cX4_putKey 43 = .ok (.iload_n 1, 1) := by decide +kernel
theorem dX4_putKey_44 : decode cX4_putKey 44 = .ok (.iload_n 2, 1) := by decide +kernel
theorem dX4_putKey_45 : decode cX4_putKey 45 = .ok (.invokevirtual 194, 3) := by decide +kernel
theorem dX4_putKey_48 : decode cX4_putKey 48 = .ok (.iload 4, 2) := by decide +kernel
theorem dX4_putKey_50 : decode cX4_putKey 50 = .ok (.bipush 100, 2) := by decide +kernel
theorem dX4_putKey_52 : decode cX4_putKey 52 = .ok (.iadd, 1) := by decide +kernel
theorem dX4_putKey_53 : decode cX4_putKey 53 = .ok (.ireturn, 1) := by decide +kernel
theorem dX4_dropKeys_0 : decode cX4_dropKeys 0 = .ok (.aload_n 0, 1) := by decide +kernel
theorem dX4_dropKeys_1 : decode cX4_dropKeys 1 = .ok (.getfield 10, 3) := by decide +kernel
theorem dX4_dropKeys_4 : decode cX4_dropKeys 4 = .ok (.iload_n 1, 1) := by decide +kernel
theorem dX4_dropKeys_5 : decode cX4_dropKeys 5 = .ok (.invokevirtual 80, 3) := by decide +kernel
theorem dX4_dropKeys_8 : decode cX4_dropKeys 8 = .ok (.istore_n 3, 1) := by decide +kernel
theorem dX4_dropKeys_9 : decode cX4_dropKeys 9 = .ok (.aload_n 0, 1) := by decide +kernel
theorem dX4_dropKeys_10 : decode cX4_dropKeys 10 = .ok (.getfield 10, 3) := by decide +kernel
theorem dX4_dropKeys_13 : decode cX4_dropKeys 13 = .ok (.iload_n 2, 1) := by decide +kernel
theorem dX4_dropKeys_14 : decode cX4_dropKeys 14 = .ok (.iconst 1, 1) := by decide +kernel
theorem dX4_dropKeys_15 : decode cX4_dropKeys 15 = .ok (.iadd, 1) := by decide +kernel
theorem dX4_dropKeys_16 : decode cX4_dropKeys 16 = .ok (.invokevirtual 80, 3) := by decide +kernel
theorem dX4_dropKeys_19 : decode cX4_dropKeys 19 = .ok (.iload_n 3, 1) := by decide +kernel
theorem dX4_dropKeys_20 : decode cX4_dropKeys 20 = .ok (.isub, 1) := by decide +kernel
theorem dX4_dropKeys_21 : decode cX4_dropKeys 21 = .ok (.istore 4, 2) := by decide +kernel
theorem dX4_dropKeys_23 : decode cX4_dropKeys 23 = .ok (.iconst 0, 1) := by decide +kernel
theorem dX4_dropKeys_24 : decode cX4_dropKeys 24 = .ok (.istore 5, 2) := by decide +kernel
theorem dX4_dropKeys_26 : decode cX4_dropKeys 26 = .ok (.iload 5, 2) := by decide +kernel
theorem dX4_dropKeys_28 : decode cX4_dropKeys 28 = .ok (.iload 4, 2) := by decide +kernel
theorem dX4_dropKeys_30 : decode cX4_dropKeys 30 = .ok (.if_icmp .ge 29, 3) := by decide +kernel
theorem dX4_dropKeys_33 : decode cX4_dropKeys 33 = .ok (.aload_n 0, 1) := by decide +kernel
theorem dX4_dropKeys_34 : decode cX4_dropKeys 34 = .ok (.getfield 19, 3) := by decide +kernel
theorem dX4_dropKeys_37 : decode cX4_dropKeys 37 = .ok (.aload_n 0, 1) := by decide +kernel
theorem dX4_dropKeys_38 : decode cX4_dropKeys 38 = .ok (.getfield 10, 3) := by decide +kernel
theorem dX4_dropKeys_41 : decode cX4_dropKeys 41 = .ok (.aload_n 0, 1) := by decide +kernel
theorem dX4_dropKeys_42 : decode cX4_dropKeys 42 = .ok (.getfield 10, 3) := by decide +kernel
theorem dX4_dropKeys_45 : decode cX4_dropKeys 45 = .ok (.iload_n 3, 1) := by decide +kernel
theorem dX4_dropKeys_46 : decode cX4_dropKeys 46 = .ok (.invokevirtual 198, 3) := by decide +kernel
theorem dX4_dropKeys_49 : decode cX4_dropKeys 49 = .ok (.invokevirtual 178, 3) := by decide +kernel
theorem dX4_dropKeys_52 : decode cX4_dropKeys 52 = .ok (.pop, 1) := by decide +kernel
theorem dX4_dropKeys_53 : decode cX4_dropKeys 53 = .ok (.iinc 5 1, 3) := by decide +kernel
theorem dX4_dropKeys_56 : decode cX4_dropKeys 56 = .ok (.goto (-30), 3) := by decide +kernel
theorem dX4_dropKeys_59 : decode cX4_dropKeys 59 = .ok (.iload 4, 2) := by decide +kernel
theorem dX4_dropKeys_61 : decode cX4_dropKeys 61 = .ok (.ireturn, 1) := by decide +kernel
theorem dX4_refuse_0 : decode cX4_refuse 0 = .ok (.bipush (-2), 2) := by decide +kernel
theorem dX4_refuse_2 : decode cX4_refuse 2 = .ok (.iload_n 1, 1) := by decide +kernel
theorem dX4_refuse_3 : decode cX4_refuse 3 = .ok (.isub, 1) := by decide +kernel
theorem dX4_refuse_4 : decode cX4_refuse 4 = .ok (.istore_n 2, 1) := by decide +kernel
theorem dX4_refuse_5 : decode cX4_refuse 5 = .ok (.iload_n 2, 1) := by decide +kernel
theorem dX4_refuse_6 : decode cX4_refuse 6 = .ok (.aload_n 0, 1) := by decide +kernel
theorem dX4_refuse_7 : decode cX4_refuse 7 = .ok (.getfield 45, 3) := by decide +kernel
theorem dX4_refuse_10 : decode cX4_refuse 10 = .ok (.arraylength, 1) := by decide +kernel
theorem dX4_refuse_11 : decode cX4_refuse 11 = .ok (.iconst 1, 1) := by decide +kernel
theorem dX4_refuse_12 : decode cX4_refuse 12 = .ok (.isub, 1) := by decide +kernel
theorem dX4_refuse_13 : decode cX4_refuse 13 = .ok (.invokestatic 63, 3) := by decide +kernel
theorem dX4_refuse_16 : decode cX4_refuse 16 = .ok (.ifCond .eq 13, 3) := by decide +kernel
theorem dX4_refuse_19 : decode cX4_refuse 19 = .ok (.aload_n 0, 1) := by decide +kernel
theorem dX4_refuse_20 : decode cX4_refuse 20 = .ok (.getfield 45, 3) := by decide +kernel
theorem dX4_refuse_23 : decode cX4_refuse 23 = .ok (.iload_n 2, 1) := by decide +kernel
theorem dX4_refuse_24 : decode cX4_refuse 24 = .ok (.dup2, 1) := by decide +kernel
theorem dX4_refuse_25 : decode cX4_refuse 25 = .ok (.iaload, 1) := by decide +kernel
theorem dX4_refuse_26 : decode cX4_refuse 26 = .ok (.iconst 1, 1) := by decide +kernel
theorem dX4_refuse_27 : decode cX4_refuse 27 = .ok (.iadd, 1) := by decide +kernel
theorem dX4_refuse_28 : decode cX4_refuse 28 = .ok (.iastore, 1) := by decide +kernel
theorem dX4_refuse_29 : decode cX4_refuse 29 = .ok (.iload_n 1, 1) := by decide +kernel
theorem dX4_refuse_30 : decode cX4_refuse 30 = .ok (.ireturn, 1) := by decide +kernel
theorem dX4_counted_0 : decode cX4_counted 0 = .ok (.iload_n 1, 1) := by decide +kernel
theorem dX4_counted_1 : decode cX4_counted 1 = .ok (.tableswitch 95 0 5 #[39, 47, 63, 71, 79, 87], 39) := by decide +kernel
theorem dX4_counted_40 : decode cX4_counted 40 = .ok (.aload_n 0, 1) := by decide +kernel
theorem dX4_counted_41 : decode cX4_counted 41 = .ok (.getfield 10, 3) := by decide +kernel
theorem dX4_counted_44 : decode cX4_counted 44 = .ok (.getfield 56, 3) := by decide +kernel
theorem dX4_counted_47 : decode cX4_counted 47 = .ok (.ireturn, 1) := by decide +kernel
theorem dX4_counted_48 : decode cX4_counted 48 = .ok (.aload_n 0, 1) := by decide +kernel
theorem dX4_counted_49 : decode cX4_counted 49 = .ok (.getfield 10, 3) := by decide +kernel
theorem dX4_counted_52 : decode cX4_counted 52 = .ok (.iconst 0, 1) := by decide +kernel
theorem dX4_counted_53 : decode cX4_counted 53 = .ok (.aload_n 0, 1) := by decide +kernel
theorem dX4_counted_54 : decode cX4_counted 54 = .ok (.getfield 10, 3) := by decide +kernel
theorem dX4_counted_57 : decode cX4_counted 57 = .ok (.getfield 56, 3) := by decide +kernel
theorem dX4_counted_60 : decode cX4_counted 60 = .ok (.invokevirtual 106, 3) := by decide +kernel
theorem dX4_counted_63 : decode cX4_counted 63 = .ok (.ireturn, 1) := by decide +kernel
theorem dX4_counted_64 : decode cX4_counted 64 = .ok (.aload_n 0, 1) := by decide +kernel
theorem dX4_counted_65 : decode cX4_counted 65 = .ok (.getfield 10, 3) := by decide +kernel
theorem dX4_counted_68 : decode cX4_counted 68 = .ok (.getfield 188, 3) := by decide +kernel
theorem dX4_counted_71 : decode cX4_counted 71 = .ok (.ireturn, 1) := by decide +kernel
theorem dX4_counted_72 : decode cX4_counted 72 = .ok (.aload_n 0, 1) := by decide +kernel
theorem dX4_counted_73 : decode cX4_counted 73 = .ok (.getfield 10, 3) := by decide +kernel
theorem dX4_counted_76 : decode cX4_counted 76 = .ok (.getfield 201, 3) := by decide +kernel
theorem dX4_counted_79 : decode cX4_counted 79 = .ok (.ireturn, 1) := by decide +kernel
theorem dX4_counted_80 : decode cX4_counted 80 = .ok (.aload_n 0, 1) := by decide +kernel
theorem dX4_counted_81 : decode cX4_counted 81 = .ok (.getfield 10, 3) := by decide +kernel
theorem dX4_counted_84 : decode cX4_counted 84 = .ok (.getfield 204, 3) := by decide +kernel
theorem dX4_counted_87 : decode cX4_counted 87 = .ok (.ireturn, 1) := by decide +kernel
theorem dX4_counted_88 : decode cX4_counted 88 = .ok (.aload_n 0, 1) := by decide +kernel
theorem dX4_counted_89 : decode cX4_counted 89 = .ok (.getfield 10, 3) := by decide +kernel
theorem dX4_counted_92 : decode cX4_counted 92 = .ok (.getfield 207, 3) := by decide +kernel
theorem dX4_counted_95 : decode cX4_counted 95 = .ok (.ireturn, 1) := by decide +kernel
theorem dX4_counted_96 : decode cX4_counted 96 = .ok (.aload_n 0, 1) := by decide +kernel
theorem dX4_counted_97 : decode cX4_counted 97 = .ok (.getfield 10, 3) := by decide +kernel
theorem dX4_counted_100 : decode cX4_counted 100 = .ok (.getfield 210, 3) := by decide +kernel
theorem dX4_counted_103 : decode cX4_counted 103 = .ok (.ireturn, 1) := by decide +kernel
theorem dX4_toldOf_0 : decode cX4_toldOf 0 = .ok (.iload_n 1, 1) := by decide +kernel
theorem dX4_toldOf_1 : decode cX4_toldOf 1 = .ok (.aload_n 0, 1) := by decide +kernel
theorem dX4_toldOf_2 : decode cX4_toldOf 2 = .ok (.getfield 45, 3) := by decide +kernel
theorem dX4_toldOf_5 : decode cX4_toldOf 5 = .ok (.arraylength, 1) := by decide +kernel
theorem dX4_toldOf_6 : decode cX4_toldOf 6 = .ok (.iconst 1, 1) := by decide +kernel
theorem dX4_toldOf_7 : decode cX4_toldOf 7 = .ok (.isub, 1) := by decide +kernel
theorem dX4_toldOf_8 : decode cX4_toldOf 8 = .ok (.invokestatic 63, 3) := by decide +kernel
theorem dX4_toldOf_11 : decode cX4_toldOf 11 = .ok (.ifCond .eq 10, 3) := by decide +kernel
theorem dX4_toldOf_14 : decode cX4_toldOf 14 = .ok (.aload_n 0, 1) := by decide +kernel
theorem dX4_toldOf_15 : decode cX4_toldOf 15 = .ok (.getfield 45, 3) := by decide +kernel
theorem dX4_toldOf_18 : decode cX4_toldOf 18 = .ok (.iload_n 1, 1) := by decide +kernel
theorem dX4_toldOf_19 : decode cX4_toldOf 19 = .ok (.iaload, 1) := by decide +kernel
theorem dX4_toldOf_20 : decode cX4_toldOf 20 = .ok (.ireturn, 1) := by decide +kernel
theorem dX4_toldOf_21 : decode cX4_toldOf 21 = .ok (.iload_n 1, 1) := by decide +kernel
theorem dX4_toldOf_22 : decode cX4_toldOf 22 = .ok (.iconst 3, 1) := by decide +kernel
theorem dX4_toldOf_23 : decode cX4_toldOf 23 = .ok (.if_icmp .ne 10, 3) := by decide +kernel
theorem dX4_toldOf_26 : decode cX4_toldOf 26 = .ok (.aload_n 0, 1) := by decide +kernel
theorem dX4_toldOf_27 : decode cX4_toldOf 27 = .ok (.getfield 41, 3) := by decide +kernel
theorem dX4_toldOf_30 : decode cX4_toldOf 30 = .ok (.goto 10, 3) := by decide +kernel
theorem dX4_toldOf_33 : decode cX4_toldOf 33 = .ok (.aload_n 0, 1) := by decide +kernel
theorem dX4_toldOf_34 : decode cX4_toldOf 34 = .ok (.getfield 26, 3) := by decide +kernel
theorem dX4_toldOf_37 : decode cX4_toldOf 37 = .ok (.getfield 158, 3) := by decide +kernel
theorem dX4_toldOf_40 : decode cX4_toldOf 40 = .ok (.ireturn, 1) := by decide +kernel
theorem dX4_faultOfText_0 : decode cX4_faultOfText 0 = .ok (.aload_n 0, 1) := by decide +kernel
theorem dX4_faultOfText_1 : decode cX4_faultOfText 1 = .ok (.getfield 33, 3) := by decide +kernel
theorem dX4_faultOfText_4 : decode cX4_faultOfText 4 = .ok (.invokevirtual 127, 3) := by decide +kernel
theorem dX4_faultOfText_7 : decode cX4_faultOfText 7 = .ok (.iconst 0, 1) := by decide +kernel
theorem dX4_faultOfText_8 : decode cX4_faultOfText 8 = .ok (.istore_n 1, 1) := by decide +kernel
theorem dX4_faultOfText_9 : decode cX4_faultOfText 9 = .ok (.iload_n 1, 1) := by decide +kernel
theorem dX4_faultOfText_10 : decode cX4_faultOfText 10 = .ok (.aload_n 0, 1) := by decide +kernel
theorem dX4_faultOfText_11 : decode cX4_faultOfText 11 = .ok (.getfield 41, 3) := by decide +kernel
theorem dX4_faultOfText_14 : decode cX4_faultOfText 14 = .ok (.if_icmp .ge 36, 3) := by decide +kernel
theorem dX4_faultOfText_17 : decode cX4_faultOfText 17 = .ok (.iload_n 1, 1) := by decide +kernel
theorem dX4_faultOfText_18 : decode cX4_faultOfText 18 = .ok (.aload_n 0, 1) := by decide +kernel
theorem dX4_faultOfText_19 : decode cX4_faultOfText 19 = .ok (.getfield 37, 3) := by decide +kernel
theorem dX4_faultOfText_22 : decode cX4_faultOfText 22 = .ok (.arraylength, 1) := by decide +kernel
theorem dX4_faultOfText_23 : decode cX4_faultOfText 23 = .ok (.if_icmp .ge 27, 3) := by decide +kernel
theorem dX4_faultOfText_26 : decode cX4_faultOfText 26 = .ok (.aload_n 0, 1) := by decide +kernel
theorem dX4_faultOfText_27 : decode cX4_faultOfText 27 = .ok (.getfield 33, 3) := by decide +kernel
theorem dX4_faultOfText_30 : decode cX4_faultOfText 30 = .ok (.aload_n 0, 1) := by decide +kernel
theorem dX4_faultOfText_31 : decode cX4_faultOfText 31 = .ok (.getfield 37, 3) := by decide +kernel
theorem dX4_faultOfText_34 : decode cX4_faultOfText 34 = .ok (.iload_n 1, 1) := by decide +kernel
theorem dX4_faultOfText_35 : decode cX4_faultOfText 35 = .ok (.iaload, 1) := by decide +kernel
theorem dX4_faultOfText_36 : decode cX4_faultOfText 36 = .ok (.invokevirtual 130, 3) := by decide +kernel
theorem dX4_faultOfText_39 : decode cX4_faultOfText 39 = .ok (.ifCond .ne 5, 3) := by decide +kernel
theorem dX4_faultOfText_42 : decode cX4_faultOfText 42 = .ok (.iload_n 1, 1) := by decide +kernel
theorem dX4_faultOfText_43 : decode cX4_faultOfText 43 = .ok (.ireturn, 1) := by decide +kernel
theorem dX4_faultOfText_44 : decode cX4_faultOfText 44 = .ok (.iinc 1 1, 3) := by decide +kernel
theorem dX4_faultOfText_47 : decode cX4_faultOfText 47 = .ok (.goto (-38), 3) := by decide +kernel
theorem dX4_faultOfText_50 : decode cX4_faultOfText 50 = .ok (.aload_n 0, 1) := by decide +kernel
theorem dX4_faultOfText_51 : decode cX4_faultOfText 51 = .ok (.getfield 33, 3) := by decide +kernel
theorem dX4_faultOfText_54 : decode cX4_faultOfText 54 = .ok (.invokevirtual 213, 3) := by decide +kernel
theorem dX4_faultOfText_57 : decode cX4_faultOfText 57 = .ok (.ifCond .eq 7, 3) := by decide +kernel
theorem dX4_faultOfText_60 : decode cX4_faultOfText 60 = .ok (.iconst (-1), 1) := by decide +kernel
theorem dX4_faultOfText_61 : decode cX4_faultOfText 61 = .ok (.goto 7, 3) := by decide +kernel
theorem dX4_faultOfText_64 : decode cX4_faultOfText 64 = .ok (.aload_n 0, 1) := by decide +kernel
theorem dX4_faultOfText_65 : decode cX4_faultOfText 65 = .ok (.getfield 41, 3) := by decide +kernel
theorem dX4_faultOfText_68 : decode cX4_faultOfText 68 = .ok (.ireturn, 1) := by decide +kernel
theorem dX4_within_0 : decode cX4_within 0 = .ok (.iload_n 0, 1) := by decide +kernel
theorem dX4_within_1 : decode cX4_within 1 = .ok (.ifCond .lt 12, 3) := by decide +kernel
theorem dX4_within_4 : decode cX4_within 4 = .ok (.iload_n 0, 1) := by decide +kernel
theorem dX4_within_5 : decode cX4_within 5 = .ok (.iload_n 1, 1) := by decide +kernel
theorem dX4_within_6 : decode cX4_within 6 = .ok (.if_icmp .gt 7, 3) := by decide +kernel
theorem dX4_within_9 : decode cX4_within 9 = .ok (.iconst 1, 1) := by decide +kernel
theorem dX4_within_10 : decode cX4_within 10 = .ok (.goto 4, 3) := by decide +kernel
theorem dX4_within_13 : decode cX4_within 13 = .ok (.iconst 0, 1) := by decide +kernel
theorem dX4_within_14 : decode cX4_within 14 = .ok (.ireturn, 1) := by decide +kernel
theorem dX4_isSpan_0 : decode cX4_isSpan 0 = .ok (.iload_n 0, 1) := by decide +kernel
theorem dX4_isSpan_1 : decode cX4_isSpan 1 = .ok (.sipush 999, 3) := by decide +kernel
theorem dX4_isSpan_4 : decode cX4_isSpan 4 = .ok (.invokestatic 63, 3) := by decide +kernel
theorem dX4_isSpan_7 : decode cX4_isSpan 7 = .ok (.ifCond .eq 22, 3) := by decide +kernel
theorem dX4_isSpan_10 : decode cX4_isSpan 10 = .ok (.iload_n 1, 1) := by decide +kernel
theorem dX4_isSpan_11 : decode cX4_isSpan 11 = .ok (.sipush 999, 3) := by decide +kernel
theorem dX4_isSpan_14 : decode cX4_isSpan 14 = .ok (.invokestatic 63, 3) := by decide +kernel
theorem dX4_isSpan_17 : decode cX4_isSpan 17 = .ok (.ifCond .eq 12, 3) := by decide +kernel
theorem dX4_isSpan_20 : decode cX4_isSpan 20 = .ok (.iload_n 0, 1) := by decide +kernel
theorem dX4_isSpan_21 : decode cX4_isSpan 21 = .ok (.iload_n 1, 1) := by decide +kernel
theorem dX4_isSpan_22 : decode cX4_isSpan 22 = .ok (.if_icmp .gt 7, 3) := by decide +kernel
theorem dX4_isSpan_25 : decode cX4_isSpan 25 = .ok (.iconst 1, 1) := by decide +kernel
theorem dX4_isSpan_26 : decode cX4_isSpan 26 = .ok (.goto 4, 3) := by decide +kernel
theorem dX4_isSpan_29 : decode cX4_isSpan 29 = .ok (.iconst 0, 1) := by decide +kernel
theorem dX4_isSpan_30 : decode cX4_isSpan 30 = .ok (.ireturn, 1) := by decide +kernel
theorem dX4_cellsOf_0 : decode cX4_cellsOf 0 = .ok (.iconst 4, 1) := by decide +kernel
theorem dX4_cellsOf_1 : decode cX4_cellsOf 1 = .ok (.iload_n 0, 1) := by decide +kernel
theorem dX4_cellsOf_2 : decode cX4_cellsOf 2 = .ok (.ishl, 1) := by decide +kernel
theorem dX4_cellsOf_3 : decode cX4_cellsOf 3 = .ok (.ireturn, 1) := by decide +kernel
theorem dX5_init_0 : decode cX5_init 0 = .ok (.aload_n 0, 1) := by decide +kernel
theorem dX5_init_1 : decode cX5_init 1 = .ok (.invokespecial 1, 3) := by decide +kernel
theorem dX5_init_4 : decode cX5_init 4 = .ok (.aload_n 0, 1) := by decide +kernel
theorem dX5_init_5 : decode cX5_init 5 = .ok (.sipush 159, 3) := by decide +kernel
theorem dX5_init_8 : decode cX5_init 8 = .ok (.newarray .int, 2) := by decide +kernel
theorem dX5_init_10 : decode cX5_init 10 = .ok (.putfield 7, 3) := by decide +kernel
theorem dX5_init_13 : decode cX5_init 13 = .ok (.aload_n 0, 1) := by decide +kernel
theorem dX5_init_14 : decode cX5_init 14 = .ok (.sipush 795, 3) := by decide +kernel
theorem dX5_init_17 : decode cX5_init 17 = .ok (.newarray .int, 2) := by decide +kernel
theorem dX5_init_19 : decode cX5_init 19 = .ok (.putfield 13, 3) := by decide +kernel
theorem dX5_init_22 : decode cX5_init 22 = .ok (.aload_n 0, 1) := by decide +kernel
theorem dX5_init_23 : decode cX5_init 23 = .ok (.sipush 159, 3) := by decide +kernel
theorem dX5_init_26 : decode cX5_init 26 = .ok (.newarray .int, 2) := by decide +kernel
theorem dX5_init_28 : decode cX5_init 28 = .ok (.putfield 16, 3) := by decide +kernel
theorem dX5_init_31 : decode cX5_init 31 = .ok (.aload_n 0, 1) := by decide +kernel
theorem dX5_init_32 : decode cX5_init 32 = .ok (.iconst 3, 1) := by decide +kernel
theorem dX5_init_33 : decode cX5_init 33 = .ok (.newarray .int, 2) := by decide +kernel
theorem dX5_init_35 : decode cX5_init 35 = .ok (.putfield 19, 3) := by decide +kernel
theorem dX5_init_38 : decode cX5_init 38 = .ok (.aload_n 0, 1) := by decide +kernel
theorem dX5_init_39 : decode cX5_init 39 = .ok (.bipush 64, 2) := by decide +kernel
theorem dX5_init_41 : decode cX5_init 41 = .ok (.newarray .int, 2) := by decide +kernel
theorem dX5_init_43 : decode cX5_init 43 = .ok (.putfield 22, 3) := by decide +kernel
theorem dX5_init_46 : decode cX5_init 46 = .ok (.aload_n 0, 1) := by decide +kernel
theorem dX5_init_47 : decode cX5_init 47 = .ok (.bipush 64, 2) := by decide +kernel
theorem dX5_init_49 : decode cX5_init 49 = .ok (.newarray .int, 2) := by decide +kernel
theorem dX5_init_51 : decode cX5_init 51 = .ok (.putfield 25, 3) := by decide +kernel
theorem dX5_init_54 : decode cX5_init 54 = .ok (.aload_n 0, 1) := by decide +kernel
theorem dX5_init_55 : decode cX5_init 55 = .ok (.bipush 64, 2) := by decide +kernel
theorem dX5_init_57 : decode cX5_init 57 = .ok (.newarray .int, 2) := by decide +kernel
theorem dX5_init_59 : decode cX5_init 59 = .ok (.putfield 28, 3) := by decide +kernel
theorem dX5_init_62 : decode cX5_init 62 = .ok (.aload_n 0, 1) := by decide +kernel
theorem dX5_init_63 : decode cX5_init 63 = .ok (.bipush 120, 2) := by decide +kernel
theorem dX5_init_65 : decode cX5_init 65 = .ok (.newarray .int, 2) := by decide +kernel
theorem dX5_init_67 : decode cX5_init 67 = .ok (.putfield 31, 3) := by decide +kernel
theorem dX5_init_70 : decode cX5_init 70 = .ok (.aload_n 0, 1) := by decide +kernel
theorem dX5_init_71 : decode cX5_init 71 = .ok (.sipush 180, 3) := by decide +kernel
theorem dX5_init_74 : decode cX5_init 74 = .ok (.newarray .int, 2) := by decide +kernel
theorem dX5_init_76 : decode cX5_init 76 = .ok (.putfield 34, 3) := by decide +kernel
theorem dX5_init_79 : decode cX5_init 79 = .ok (.aload_n 0, 1) := by decide +kernel
theorem dX5_init_80 : decode cX5_init 80 = .ok (.getfield 7, 3) := by decide +kernel
theorem dX5_init_83 : decode cX5_init 83 = .ok (.iconst 0, 1) := by decide +kernel
theorem dX5_init_84 : decode cX5_init 84 = .ok (.bipush 16, 2) := by decide +kernel
theorem dX5_init_86 : decode cX5_init 86 = .ok (.iastore, 1) := by decide +kernel
theorem dX5_init_87 : decode cX5_init 87 = .ok (.iconst 0, 1) := by decide +kernel
theorem dX5_init_88 : decode cX5_init 88 = .ok (.istore_n 1, 1) := by decide +kernel
theorem dX5_init_89 : decode cX5_init 89 = .ok (.iload_n 1, 1) := by decide +kernel
theorem dX5_init_90 : decode cX5_init 90 = .ok (.bipush 64, 2) := by decide +kernel
theorem dX5_init_92 : decode cX5_init 92 = .ok (.if_icmp .ge 19, 3) := by decide +kernel
theorem dX5_init_95 : decode cX5_init 95 = .ok (.aload_n 0, 1) := by decide +kernel
theorem dX5_init_96 : decode cX5_init 96 = .ok (.getfield 7, 3) := by decide +kernel
theorem dX5_init_99 : decode cX5_init 99 = .ok (.bipush 31, 2) := by decide +kernel
theorem dX5_init_101 : decode cX5_init 101 = .ok (.iload_n 1, 1) := by decide +kernel
theorem dX5_init_102 : decode cX5_init 102 = .ok (.iadd, 1) := by decide +kernel
theorem dX5_init_103 : decode cX5_init 103 = .ok (.iconst (-1), 1) := by decide +kernel
theorem dX5_init_104 : decode cX5_init 104 = .ok (.iastore, 1) := by decide +kernel
theorem dX5_init_105 : decode cX5_init 105 = .ok (.iinc 1 1, 3) := by decide +kernel
theorem dX5_init_108 : decode cX5_init 108 = .ok (.goto (-19), 3) := by decide +kernel
theorem dX5_init_111 : decode cX5_init 111 = .ok (.return_, 1) := by decide +kernel
theorem dX5_in_0 : decode cX5_in 0 = .ok (.iload_n 0, 1) := by decide +kernel
theorem dX5_in_1 : decode cX5_in 1 = .ok (.iload_n 1, 1) := by decide +kernel
theorem dX5_in_2 : decode cX5_in 2 = .ok (.if_icmp .lt 12, 3) := by decide +kernel
theorem dX5_in_5 : decode cX5_in 5 = .ok (.iload_n 0, 1) := by decide +kernel
theorem dX5_in_6 : decode cX5_in 6 = .ok (.iload_n 2, 1) := by decide +kernel
theorem dX5_in_7 : decode cX5_in 7 = .ok (.if_icmp .gt 7, 3) := by decide +kernel
theorem dX5_in_10 : decode cX5_in 10 = .ok (.iconst 1, 1) := by decide +kernel
theorem dX5_in_11 : decode cX5_in 11 = .ok (.goto 4, 3) := by decide +kernel
theorem dX5_in_14 : decode cX5_in 14 = .ok (.iconst 0, 1) := by decide +kernel
theorem dX5_in_15 : decode cX5_in 15 = .ok (.ireturn, 1) := by decide +kernel
theorem dX5_answers_0 : decode cX5_answers 0 = .ok (.iload_n 2, 1) := by decide +kernel
theorem dX5_answers_1 : decode cX5_answers 1 = .ok (.ifCond .eq 16, 3) := by decide +kernel
theorem dX5_answers_4 : decode cX5_answers 4 = .ok (.aload_n 0, 1) := by decide +kernel
theorem dX5_answers_5 : decode cX5_answers 5 = .ok (.getfield 19, 3) := by decide +kernel
theorem dX5_answers_8 : decode cX5_answers 8 = .ok (.bipush (-2), 2) := by decide +kernel
theorem dX5_answers_10 : decode cX5_answers 10 = .ok (.iload_n 1, 1) := by decide +kernel
theorem dX5_answers_11 : decode cX5_answers 11 = .ok (.isub, 1) := by decide +kernel
theorem dX5_answers_12 : decode cX5_answers 12 = .ok (.dup2, 1) := by decide +kernel
theorem dX5_answers_13 : decode cX5_answers 13 = .ok (.iaload, 1) := by decide +kernel
theorem dX5_answers_14 : decode cX5_answers 14 = .ok (.iconst 1, 1) := by decide +kernel
theorem dX5_answers_15 : decode cX5_answers 15 = .ok (.iadd, 1) := by decide +kernel
theorem dX5_answers_16 : decode cX5_answers 16 = .ok (.iastore, 1) := by decide +kernel
theorem dX5_answers_17 : decode cX5_answers 17 = .ok (.iload_n 1, 1) := by decide +kernel
theorem dX5_answers_18 : decode cX5_answers 18 = .ok (.ireturn, 1) := by decide +kernel
theorem dX5_bad_0 : decode cX5_bad 0 = .ok (.aload_n 0, 1) := by decide +kernel
theorem dX5_bad_1 : decode cX5_bad 1 = .ok (.bipush (-2), 2) := by decide +kernel
theorem dX5_bad_3 : decode cX5_bad 3 = .ok (.iconst 1, 1) := by decide +kernel
theorem dX5_bad_4 : decode cX5_bad 4 = .ok (.invokevirtual 41, 3) := by decide +kernel
theorem dX5_bad_7 : decode cX5_bad 7 = .ok (.ireturn, 1) := by decide +kernel
theorem dX5_top_0 : decode cX5_top 0 = .ok (.aload_n 0, 1) := by decide +kernel
theorem dX5_top_1 : decode cX5_top 1 = .ok (.getfield 7, 3) := by decide +kernel
theorem dX5_top_4 : decode cX5_top 4 = .ok (.iconst 0, 1) := by decide +kernel
theorem dX5_top_5 : decode cX5_top 5 = .ok (.iaload, 1) := by decide +kernel
theorem dX5_top_6 : decode cX5_top 6 = .ok (.bipush 16, 2) := by decide +kernel
theorem dX5_top_8 : decode cX5_top 8 = .ok (.if_icmp .ne 7, 3) := by decide +kernel
theorem dX5_top_11 : decode cX5_top 11 = .ok (.iconst 2, 1) := by decide +kernel
theorem dX5_top_12 : decode cX5_top 12 = .ok (.goto 19, 3) := by decide +kernel
theorem dX5_top_15 : decode cX5_top 15 = .ok (.aload_n 0, 1) := by decide +kernel
theorem dX5_top_16 : decode cX5_top 16 = .ok (.getfield 7, 3) := by decide +kernel
theorem dX5_top_19 : decode cX5_top 19 = .ok (.iconst 0, 1) := by decide +kernel
theorem dX5_top_20 : decode cX5_top 20 = .ok (.iaload, 1) := by decide +kernel
theorem dX5_top_21 : decode cX5_top 21 = .ok (.bipush 32, 2) := by decide +kernel
theorem dX5_top_23 : decode cX5_top 23 = .ok (.if_icmp .ne 7, 3) := by decide +kernel
theorem dX5_top_26 : decode cX5_top 26 = .ok (.iconst 3, 1) := by decide +kernel
theorem dX5_top_27 : decode cX5_top 27 = .ok (.goto 4, 3) := by decide +kernel
theorem dX5_top_30 : decode cX5_top 30 = .ok (.iconst 4, 1) := by decide +kernel
theorem dX5_top_31 : decode cX5_top 31 = .ok (.ireturn, 1) := by decide +kernel
theorem dX5_wide_0 : decode cX5_wide 0 = .ok (.iconst 4, 1) := by decide +kernel
theorem dX5_wide_1 : decode cX5_wide 1 = .ok (.iload_n 0, 1) := by decide +kernel
theorem dX5_wide_2 : decode cX5_wide 2 = .ok (.ishl, 1) := by decide +kernel
theorem dX5_wide_3 : decode cX5_wide 3 = .ok (.ireturn, 1) := by decide +kernel
theorem dX5_most_0 : decode cX5_most 0 = .ok (.iload_n 1, 1) := by decide +kernel
theorem dX5_most_1 : decode cX5_most 1 = .ok (.invokestatic 45, 3) := by decide +kernel
theorem dX5_most_4 : decode cX5_most 4 = .ok (.bipush 100, 2) := by decide +kernel
theorem dX5_most_6 : decode cX5_most 6 = .ok (.bipush 25, 2) := by decide +kernel
theorem dX5_most_8 : decode cX5_most 8 = .ok (.iload_n 1, 1) := by decide +kernel
theorem dX5_most_9 : decode cX5_most 9 = .ok (.imul, 1) := by decide +kernel
theorem dX5_most_10 : decode cX5_most 10 = .ok (.aload_n 0, 1) := by decide +kernel
theorem dX5_most_11 : decode cX5_most 11 = .ok (.invokevirtual 49, 3) := by decide +kernel
theorem dX5_most_14 : decode cX5_most 14 = .ok (.idiv, 1) := by decide +kernel
theorem dX5_most_15 : decode cX5_most 15 = .ok (.isub, 1) := by decide +kernel
theorem dX5_most_16 : decode cX5_most 16 = .ok (.imul, 1) := by decide +kernel
theorem dX5_most_17 : decode cX5_most 17 = .ok (.bipush 100, 2) := by decide +kernel
theorem dX5_most_19 : decode cX5_most 19 = .ok (.idiv, 1) := by decide +kernel
theorem dX5_most_20 : decode cX5_most 20 = .ok (.ireturn, 1) := by decide +kernel
theorem dX5_least_0 : decode cX5_least 0 = .ok (.iload_n 1, 1) := by decide +kernel
theorem dX5_least_1 : decode cX5_least 1 = .ok (.invokestatic 45, 3) := by decide +kernel
theorem dX5_least_4 : decode cX5_least 4 = .ok (.bipush 25, 2) := by decide +kernel
theorem dX5_least_6 : decode cX5_least 6 = .ok (.iconst 5, 1) := by decide +kernel
theorem dX5_least_7 : decode cX5_least 7 = .ok (.iload_n 1, 1) := by decide +kernel
theorem dX5_least_8 : decode cX5_least 8 = .ok (.imul, 1) := by decide +kernel
theorem dX5_least_9 : decode cX5_least 9 = .ok (.aload_n 0, 1) := by decide +kernel
theorem dX5_least_10 : decode cX5_least 10 = .ok (.invokevirtual 49, 3) := by decide +kernel
theorem dX5_least_13 : decode cX5_least 13 = .ok (.idiv, 1) := by decide +kernel
theorem dX5_least_14 : decode cX5_least 14 = .ok (.iadd, 1) := by decide +kernel
theorem dX5_least_15 : decode cX5_least 15 = .ok (.imul, 1) := by decide +kernel
theorem dX5_least_16 : decode cX5_least 16 = .ok (.bipush 100, 2) := by decide +kernel
theorem dX5_least_18 : decode cX5_least 18 = .ok (.idiv, 1) := by decide +kernel
theorem dX5_least_19 : decode cX5_least 19 = .ok (.ireturn, 1) := by decide +kernel
theorem dX5_keysIn_0 : decode cX5_keysIn 0 = .ok (.iconst 0, 1) := by decide +kernel
theorem dX5_keysIn_1 : decode cX5_keysIn 1 = .ok (.istore_n 3, 1) := by decide +kernel
theorem dX5_keysIn_2 : decode cX5_keysIn 2 = .ok (.iload_n 1, 1) := by decide +kernel
theorem dX5_keysIn_3 : decode cX5_keysIn 3 = .ok (.istore 4, 2) := by decide +kernel
theorem dX5_keysIn_5 : decode cX5_keysIn 5 = .ok (.iload 4, 2) := by decide +kernel
theorem dX5_keysIn_7 : decode cX5_keysIn 7 = .ok (.iload_n 1, 1) := by decide +kernel
theorem dX5_keysIn_8 : decode cX5_keysIn 8 = .ok (.iload_n 2, 1) := by decide +kernel
theorem dX5_keysIn_9 : decode cX5_keysIn 9 = .ok (.iadd, 1) := by decide +kernel
theorem dX5_keysIn_10 : decode cX5_keysIn 10 = .ok (.if_icmp .ge 31, 3) := by decide +kernel
theorem dX5_keysIn_13 : decode cX5_keysIn 13 = .ok (.iload_n 3, 1) := by decide +kernel
theorem dX5_keysIn_14 : decode cX5_keysIn 14 = .ok (.aload_n 0, 1) := by decide +kernel
theorem dX5_keysIn_15 : decode cX5_keysIn 15 = .ok (.getfield 7, 3) := by decide +kernel
theorem dX5_keysIn_18 : decode cX5_keysIn 18 = .ok (.bipush 31, 2) := by decide +kernel
theorem dX5_keysIn_20 : decode cX5_keysIn 20 = .ok (.iload 4, 2) := by decide +kernel
theorem dX5_keysIn_22 : decode cX5_keysIn 22 = .ok (.iadd, 1) := by decide +kernel
theorem dX5_keysIn_23 : decode cX5_keysIn 23 = .ok (.iaload, 1) := by decide +kernel
theorem dX5_keysIn_24 : decode cX5_keysIn 24 = .ok (.iconst (-1), 1) := by decide +kernel
theorem dX5_keysIn_25 : decode cX5_keysIn 25 = .ok (.if_icmp .ne 7, 3) := by decide +kernel
theorem dX5_keysIn_28 : decode cX5_keysIn 28 = .ok (.iconst 0, 1) := by decide +kernel
theorem dX5_keysIn_29 : decode cX5_keysIn 29 = .ok (.goto 4, 3) := by decide +kernel
theorem dX5_keysIn_32 : decode cX5_keysIn 32 = .ok (.iconst 1, 1) := by decide +kernel
theorem dX5_keysIn_33 : decode cX5_keysIn 33 = .ok (.iadd, 1) := by decide +kernel
theorem dX5_keysIn_34 : decode cX5_keysIn 34 = .ok (.istore_n 3, 1) := by decide +kernel
theorem dX5_keysIn_35 : decode cX5_keysIn 35 = .ok (.iinc 4 1, 3) := by decide +kernel
theorem dX5_keysIn_38 : decode cX5_keysIn 38 = .ok (.goto (-33), 3) := by decide +kernel
theorem dX5_keysIn_41 : decode cX5_keysIn 41 = .ok (.iload_n 3, 1) := by decide +kernel
theorem dX5_keysIn_42 : decode cX5_keysIn 42 = .ok (.ireturn, 1) := by decide +kernel
theorem dX5_cellOf_0 : decode cX5_cellOf 0 = .ok (.iconst (-1), 1) := by decide +kernel
theorem dX5_cellOf_1 : decode cX5_cellOf 1 = .ok (.istore_n 2, 1) := by decide +kernel
theorem dX5_cellOf_2 : decode cX5_cellOf 2 = .ok (.iconst 0, 1) := by decide +kernel
theorem dX5_cellOf_3 : decode cX5_cellOf 3 = .ok (.istore_n 3, 1) := by decide +kernel
theorem dX5_cellOf_4 : decode cX5_cellOf 4 = .ok (.iload_n 3, 1) := by decide +kernel
theorem dX5_cellOf_5 : decode cX5_cellOf 5 = .ok (.aload_n 0, 1) := by decide +kernel
theorem dX5_cellOf_6 : decode cX5_cellOf 6 = .ok (.getfield 7, 3) := by decide +kernel
theorem dX5_cellOf_9 : decode cX5_cellOf 9 = .ok (.iconst 0, 1) := by decide +kernel
theorem dX5_cellOf_10 : decode cX5_cellOf 10 = .ok (.iaload, 1) := by decide +kernel
theorem dX5_cellOf_11 : decode cX5_cellOf 11 = .ok (.if_icmp .ge 28, 3) := by decide +kernel
theorem dX5_cellOf_14 : decode cX5_cellOf 14 = .ok (.aload_n 0, 1) := by decide +kernel
theorem dX5_cellOf_15 : decode cX5_cellOf 15 = .ok (.getfield 7, 3) := by decide +kernel
theorem dX5_cellOf_18 : decode cX5_cellOf 18 = .ok (.bipush 31, 2) := by decide +kernel
theorem dX5_cellOf_20 : decode cX5_cellOf 20 = .ok (.iload_n 3, 1) := by decide +kernel
theorem dX5_cellOf_21 : decode cX5_cellOf 21 = .ok (.iadd, 1) := by decide +kernel
theorem dX5_cellOf_22 : decode cX5_cellOf 22 = .ok (.iaload, 1) := by decide +kernel
theorem dX5_cellOf_23 : decode cX5_cellOf 23 = .ok (.iload_n 1, 1) := by decide +kernel
theorem dX5_cellOf_24 : decode cX5_cellOf 24 = .ok (.if_icmp .ne 7, 3) := by decide +kernel
theorem dX5_cellOf_27 : decode cX5_cellOf 27 = .ok (.iload_n 3, 1) := by decide +kernel
theorem dX5_cellOf_28 : decode cX5_cellOf 28 = .ok (.goto 4, 3) := by decide +kernel
theorem dX5_cellOf_31 : decode cX5_cellOf 31 = .ok (.iload_n 2, 1) := by decide +kernel
theorem dX5_cellOf_32 : decode cX5_cellOf 32 = .ok (.istore_n 2, 1) := by decide +kernel
theorem dX5_cellOf_33 : decode cX5_cellOf 33 = .ok (.iinc 3 1, 3) := by decide +kernel
theorem dX5_cellOf_36 : decode cX5_cellOf 36 = .ok (.goto (-32), 3) := by decide +kernel
theorem dX5_cellOf_39 : decode cX5_cellOf 39 = .ok (.iload_n 2, 1) := by decide +kernel
theorem dX5_cellOf_40 : decode cX5_cellOf 40 = .ok (.ireturn, 1) := by decide +kernel
theorem dX5_lays_0 : decode cX5_lays 0 = .ok (.aload_n 0, 1) := by decide +kernel
theorem dX5_lays_1 : decode cX5_lays 1 = .ok (.getfield 22, 3) := by decide +kernel
theorem dX5_lays_4 : decode cX5_lays 4 = .ok (.aload_n 0, 1) := by decide +kernel
theorem dX5_lays_5 : decode cX5_lays 5 = .ok (.getfield 53, 3) := by decide +kernel
theorem dX5_lays_8 : decode cX5_lays 8 = .ok (.iload_n 1, 1) := by decide +kernel
theorem dX5_lays_9 : decode cX5_lays 9 = .ok (.iastore, 1) := by decide +kernel
theorem dX5_lays_10 : decode cX5_lays 10 = .ok (.aload_n 0, 1) := by decide +kernel
theorem dX5_lays_11 : decode cX5_lays 11 = .ok (.getfield 25, 3) := by decide +kernel
theorem dX5_lays_14 : decode cX5_lays 14 = .ok (.aload_n 0, 1) := by decide +kernel
theorem dX5_lays_15 : decode cX5_lays 15 = .ok (.getfield 53, 3) := by decide +kernel
theorem dX5_lays_18 : decode cX5_lays 18 = .ok (.iload_n 2, 1) := by decide +kernel
theorem dX5_lays_19 : decode cX5_lays 19 = .ok (.iastore, 1) := by decide +kernel
theorem dX5_lays_20 : decode cX5_lays 20 = .ok (.aload_n 0, 1) := by decide +kernel
theorem dX5_lays_21 : decode cX5_lays 21 = .ok (.getfield 28, 3) := by decide +kernel
theorem dX5_lays_24 : decode cX5_lays 24 = .ok (.aload_n 0, 1) := by decide +kernel
theorem dX5_lays_25 : decode cX5_lays 25 = .ok (.getfield 53, 3) := by decide +kernel
theorem dX5_lays_28 : decode cX5_lays 28 = .ok (.iload_n 3, 1) := by decide +kernel
theorem dX5_lays_29 : decode cX5_lays 29 = .ok (.iastore, 1) := by decide +kernel
theorem dX5_lays_30 : decode cX5_lays 30 = .ok (.aload_n 0, 1) := by decide +kernel
theorem dX5_lays_31 : decode cX5_lays 31 = .ok (.dup, 1) := by decide +kernel
theorem dX5_lays_32 : decode cX5_lays 32 = .ok (.getfield 53, 3) := by decide +kernel
theorem dX5_lays_35 : decode cX5_lays 35 = .ok (.iconst 1, 1) := by decide +kernel
theorem dX5_lays_36 : decode cX5_lays 36 = .ok (.iadd, 1) := by decide +kernel
theorem dX5_lays_37 : decode cX5_lays 37 = .ok (.putfield 53, 3) := by decide +kernel
theorem dX5_lays_40 : decode cX5_lays 40 = .ok (.return_, 1) := by decide +kernel
theorem dX5_takesOut_0 : decode cX5_takesOut 0 = .ok (.aload_n 0, 1) := by decide +kernel
theorem dX5_takesOut_1 : decode cX5_takesOut 1 = .ok (.iconst 0, 1) := by decide +kernel
theorem dX5_takesOut_2 : decode cX5_takesOut 2 = .ok (.putfield 53, 3) := by decide +kernel
theorem dX5_takesOut_5 : decode cX5_takesOut 5 = .ok (.aload_n 0, 1) := by decide +kernel
theorem dX5_takesOut_6 : decode cX5_takesOut 6 = .ok (.iconst (-1), 1) := by decide +kernel
theorem dX5_takesOut_7 : decode cX5_takesOut 7 = .ok (.putfield 56, 3) := by decide +kernel
theorem dX5_takesOut_10 : decode cX5_takesOut 10 = .ok (.iload_n 1, 1) := by decide +kernel
theorem dX5_takesOut_11 : decode cX5_takesOut 11 = .ok (.istore 5, 2) := by decide +kernel
theorem dX5_takesOut_13 : decode cX5_takesOut 13 = .ok (.iload 5, 2) := by decide +kernel
theorem dX5_takesOut_15 : decode cX5_takesOut 15 = .ok (.iload_n 1, 1) := by decide +kernel
theorem dX5_takesOut_16 : decode cX5_takesOut 16 = .ok (.iload_n 2, 1) := by decide +kernel
theorem dX5_takesOut_17 : decode cX5_takesOut 17 = .ok (.iadd, 1) := by decide +kernel
theorem dX5_takesOut_18 : decode cX5_takesOut 18 = .ok (.if_icmp .ge 114, 3) := by decide +kernel
theorem dX5_takesOut_21 : decode cX5_takesOut 21 = .ok (.aload_n 0, 1) := by decide +kernel
theorem dX5_takesOut_22 : decode cX5_takesOut 22 = .ok (.getfield 7, 3) := by decide +kernel
theorem dX5_takesOut_25 : decode cX5_takesOut 25 = .ok (.bipush 31, 2) := by decide +kernel
theorem dX5_takesOut_27 : decode cX5_takesOut 27 = .ok (.iload 5, 2) := by decide +kernel
theorem dX5_takesOut_29 : decode cX5_takesOut 29 = .ok (.iadd, 1) := by decide +kernel
theorem dX5_takesOut_30 : decode cX5_takesOut 30 = .ok (.iaload, 1) := by decide +kernel
theorem dX5_takesOut_31 : decode cX5_takesOut 31 = .ok (.iconst (-1), 1) := by decide +kernel
theorem dX5_takesOut_32 : decode cX5_takesOut 32 = .ok (.if_icmp .eq 94, 3) := by decide +kernel
theorem dX5_takesOut_35 : decode cX5_takesOut 35 = .ok (.iload_n 3, 1) := by decide +kernel
theorem dX5_takesOut_36 : decode cX5_takesOut 36 = .ok (.iconst (-1), 1) := by decide +kernel
theorem dX5_takesOut_37 : decode cX5_takesOut 37 = .ok (.if_icmp .eq 41, 3) := by decide +kernel
theorem dX5_takesOut_40 : decode cX5_takesOut 40 = .ok (.aload_n 0, 1) := by decide +kernel
theorem dX5_takesOut_41 : decode cX5_takesOut 41 = .ok (.getfield 56, 3) := by decide +kernel
theorem dX5_takesOut_44 : decode cX5_takesOut 44 = .ok (.iconst (-1), 1) := by decide +kernel
theorem dX5_takesOut_45 : decode cX5_takesOut 45 = .ok (.if_icmp .ne 33, 3) := by decide +kernel
theorem dX5_takesOut_48 : decode cX5_takesOut 48 = .ok (.aload_n 0, 1) := by decide +kernel
theorem dX5_takesOut_49 : decode cX5_takesOut 49 = .ok (.getfield 7, 3) := by decide +kernel
theorem dX5_takesOut_52 : decode cX5_takesOut 52 = .ok (.bipush 31, 2) := by decide +kernel
theorem dX5_takesOut_54 : decode cX5_takesOut 54 = .ok (.iload 5, 2) := by decide +kernel
theorem dX5_takesOut_56 : decode cX5_takesOut 56 = .ok (.iadd, 1) := by decide +kernel
theorem dX5_takesOut_57 : decode cX5_takesOut 57 = .ok (.iaload, 1) := by decide +kernel
theorem dX5_takesOut_58 : decode cX5_takesOut 58 = .ok (.iload_n 3, 1) := by decide +kernel
theorem dX5_takesOut_59 : decode cX5_takesOut 59 = .ok (.if_icmp .le 19, 3) := by decide +kernel
theorem dX5_takesOut_62 : decode cX5_takesOut 62 = .ok (.aload_n 0, 1) := by decide +kernel
theorem dX5_takesOut_63 : decode cX5_takesOut 63 = .ok (.aload_n 0, 1) := by decide +kernel
theorem dX5_takesOut_64 : decode cX5_takesOut 64 = .ok (.getfield 53, 3) := by decide +kernel
theorem dX5_takesOut_67 : decode cX5_takesOut 67 = .ok (.putfield 56, 3) := by decide +kernel
theorem dX5_takesOut_70 : decode cX5_takesOut 70 = .ok (.aload_n 0, 1) := by decide +kernel
theorem dX5_takesOut_71 : decode cX5_takesOut 71 = .ok (.iload_n 3, 1) := by decide +kernel
theorem dX5_takesOut_72 : decode cX5_takesOut 72 = .ok (.iload 4, 2) := by decide +kernel
theorem dX5_takesOut_74 : decode cX5_takesOut 74 = .ok (.iconst (-1), 1) := by decide +kernel
theorem dX5_takesOut_75 : decode cX5_takesOut 75 = .ok (.invokevirtual 59, 3) := by decide +kernel
theorem dX5_takesOut_78 : decode cX5_takesOut 78 = .ok (.aload_n 0, 1) := by decide +kernel
theorem dX5_takesOut_79 : decode cX5_takesOut 79 = .ok (.aload_n 0, 1) := by decide +kernel
theorem dX5_takesOut_80 : decode cX5_takesOut 80 = .ok (.getfield 7, 3) := by decide +kernel
theorem dX5_takesOut_83 : decode cX5_takesOut 83 = .ok (.bipush 31, 2) := by decide +kernel
theorem dX5_takesOut_85 : decode cX5_takesOut 85 = .ok (.iload 5, 2) := by decide +kernel
theorem dX5_takesOut_87 : decode cX5_takesOut 87 = .ok (.iadd, 1) := by decide +kernel
theorem dX5_takesOut_88 : decode cX5_takesOut 88 = .ok (.iaload, 1) := by decide +kernel
theorem dX5_takesOut_89 : decode cX5_takesOut 89 = .ok (.aload_n 0, 1) := by decide +kernel
theorem dX5_takesOut_90 : decode cX5_takesOut 90 = .ok (.getfield 7, 3) := by decide +kernel
theorem dX5_takesOut_93 : decode cX5_takesOut 93 = .ok (.bipush 95, 2) := by decide +kernel
theorem dX5_takesOut_95 : decode cX5_takesOut 95 = .ok (.iload 5, 2) := by decide +kernel
theorem dX5_takesOut_97 : decode cX5_takesOut 97 = .ok (.iadd, 1) := by decide +kernel
theorem dX5_takesOut_98 : decode cX5_takesOut 98 = .ok (.iaload, 1) := by decide +kernel
theorem dX5_takesOut_99 : decode cX5_takesOut 99 = .ok (.iload 5, 2) := by decide +kernel
theorem dX5_takesOut_101 : decode cX5_takesOut 101 = .ok (.invokevirtual 59, 3) := by decide +kernel
theorem dX5_takesOut_104 : decode cX5_takesOut 104 = .ok (.aload_n 0, 1) := by decide +kernel
theorem dX5_takesOut_105 : decode cX5_takesOut 105 = .ok (.getfield 7, 3) := by decide +kernel
theorem dX5_takesOut_108 : decode cX5_takesOut 108 = .ok (.bipush 31, 2) := by decide +kernel
theorem dX5_takesOut_110 : decode cX5_takesOut 110 = .ok (.iload 5, 2) := by decide +kernel
theorem dX5_takesOut_112 : decode cX5_takesOut 112 = .ok (.iadd, 1) := by decide +kernel
theorem dX5_takesOut_113 : decode cX5_takesOut 113 = .ok (.iconst (-1), 1) := by decide +kernel
theorem dX5_takesOut_114 : decode cX5_takesOut 114 = .ok (.iastore, 1) := by decide +kernel
theorem dX5_takesOut_115 : decode cX5_takesOut 115 = .ok (.aload_n 0, 1) := by decide +kernel
theorem dX5_takesOut_116 : decode cX5_takesOut 116 = .ok (.getfield 7, 3) := by decide +kernel
theorem dX5_takesOut_119 : decode cX5_takesOut 119 = .ok (.bipush 95, 2) := by decide +kernel
theorem dX5_takesOut_121 : decode cX5_takesOut 121 = .ok (.iload 5, 2) := by decide +kernel
theorem dX5_takesOut_123 : decode cX5_takesOut 123 = .ok (.iadd, 1) := by decide +kernel
theorem dX5_takesOut_124 : decode cX5_takesOut 124 = .ok (.iconst 0, 1) := by decide +kernel
theorem dX5_takesOut_125 : decode cX5_takesOut 125 = .ok (.iastore, 1) := by decide +kernel
theorem dX5_takesOut_126 : decode cX5_takesOut 126 = .ok (.iinc 5 1, 3) := by decide +kernel
theorem dX5_takesOut_129 : decode cX5_takesOut 129 = .ok (.goto (-116), 3) := by decide +kernel
theorem dX5_takesOut_132 : decode cX5_takesOut 132 = .ok (.iload_n 3, 1) := by decide +kernel
theorem dX5_takesOut_133 : decode cX5_takesOut 133 = .ok (.iconst (-1), 1) := by decide +kernel
theorem dX5_takesOut_134 : decode cX5_takesOut 134 = .ok (.if_icmp .eq 27, 3) := by decide +kernel
theorem dX5_takesOut_137 : decode cX5_takesOut 137 = .ok (.aload_n 0, 1) := by decide +kernel
theorem dX5_takesOut_138 : decode cX5_takesOut 138 = .ok (.getfield 56, 3) := by decide +kernel
theorem dX5_takesOut_141 : decode cX5_takesOut 141 = .ok (.iconst (-1), 1) := by decide +kernel
theorem dX5_takesOut_142 : decode cX5_takesOut 142 = .ok (.if_icmp .ne 19, 3) := by decide +kernel
theorem dX5_takesOut_145 : decode cX5_takesOut 145 = .ok (.aload_n 0, 1) := by decide +kernel
theorem dX5_takesOut_146 : decode cX5_takesOut 146 = .ok (.aload_n 0, 1) := by decide +kernel
theorem dX5_takesOut_147 : decode cX5_takesOut 147 = .ok (.getfield 53, 3) := by decide +kernel
theorem dX5_takesOut_150 : decode cX5_takesOut 150 = .ok (.putfield 56, 3) := by decide +kernel
theorem dX5_takesOut_153 : decode cX5_takesOut 153 = .ok (.aload_n 0, 1) := by decide +kernel
theorem dX5_takesOut_154 : decode cX5_takesOut 154 = .ok (.iload_n 3, 1) := by decide +kernel
end
section
theorem dX5_takesOut_155 : decode cX5_takesOut 155 = .ok (.iload 4, 2) := by decide +kernel
theorem dX5_takesOut_157 : decode cX5_takesOut 157 = .ok (.iconst (-1), 1) := by decide +kernel
theorem dX5_takesOut_158 : decode cX5_takesOut 158 = .ok (.invokevirtual 59, 3) := by decide +kernel
theorem dX5_takesOut_161 : decode cX5_takesOut 161 = .ok (.return_, 1) := by decide +kernel
theorem dX5_putsBack_0 : decode cX5_putsBack 0 = .ok (.aload_n 0, 1) := by decide +kernel
theorem dX5_putsBack_1 : decode cX5_putsBack 1 = .ok (.getfield 7, 3) := by decide +kernel
theorem dX5_putsBack_4 : decode cX5_putsBack 4 = .ok (.iconst 1, 1) := by decide +kernel
theorem dX5_putsBack_5 : decode cX5_putsBack 5 = .ok (.iaload, 1) := by decide +kernel
theorem dX5_putsBack_6 : decode cX5_putsBack 6 = .ok (.iconst 1, 1) := by decide +kernel
theorem dX5_putsBack_7 : decode cX5_putsBack 7 = .ok (.if_icmp .ne 15, 3) := by decide +kernel
theorem dX5_putsBack_10 : decode cX5_putsBack 10 = .ok (.aload_n 0, 1) := by decide +kernel
theorem dX5_putsBack_11 : decode cX5_putsBack 11 = .ok (.getfield 56, 3) := by decide +kernel
theorem dX5_putsBack_14 : decode cX5_putsBack 14 = .ok (.iconst (-1), 1) := by decide +kernel
theorem dX5_putsBack_15 : decode cX5_putsBack 15 = .ok (.if_icmp .eq 7, 3) := by decide +kernel
theorem dX5_putsBack_18 : decode cX5_putsBack 18 = .ok (.iconst 1, 1) := by decide +kernel
theorem dX5_putsBack_19 : decode cX5_putsBack 19 = .ok (.goto 4, 3) := by decide +kernel
theorem dX5_putsBack_22 : decode cX5_putsBack 22 = .ok (.iconst 0, 1) := by decide +kernel
theorem dX5_putsBack_23 : decode cX5_putsBack 23 = .ok (.istore_n 3, 1) := by decide +kernel
theorem dX5_putsBack_24 : decode cX5_putsBack 24 = .ok (.iload_n 3, 1) := by decide +kernel
theorem dX5_putsBack_25 : decode cX5_putsBack 25 = .ok (.ifCond .eq 14, 3) := by decide +kernel
theorem dX5_putsBack_28 : decode cX5_putsBack 28 = .ok (.iload_n 2, 1) := by decide +kernel
theorem dX5_putsBack_29 : decode cX5_putsBack 29 = .ok (.aload_n 0, 1) := by decide +kernel
theorem dX5_putsBack_30 : decode cX5_putsBack 30 = .ok (.getfield 53, 3) := by decide +kernel
theorem dX5_putsBack_33 : decode cX5_putsBack 33 = .ok (.isub, 1) := by decide +kernel
theorem dX5_putsBack_34 : decode cX5_putsBack 34 = .ok (.iconst 2, 1) := by decide +kernel
theorem dX5_putsBack_35 : decode cX5_putsBack 35 = .ok (.idiv, 1) := by decide +kernel
theorem dX5_putsBack_36 : decode cX5_putsBack 36 = .ok (.goto 4, 3) := by decide +kernel
theorem dX5_putsBack_39 : decode cX5_putsBack 39 = .ok (.iconst 0, 1) := by decide +kernel
theorem dX5_putsBack_40 : decode cX5_putsBack 40 = .ok (.istore 4, 2) := by decide +kernel
theorem dX5_putsBack_42 : decode cX5_putsBack 42 = .ok (.iconst 0, 1) := by decide +kernel
theorem dX5_putsBack_43 : decode cX5_putsBack 43 = .ok (.istore 5, 2) := by decide +kernel
theorem dX5_putsBack_45 : decode cX5_putsBack 45 = .ok (.iconst 0, 1) := by decide +kernel
theorem dX5_putsBack_46 : decode cX5_putsBack 46 = .ok (.istore 6, 2) := by decide +kernel
theorem dX5_putsBack_48 : decode cX5_putsBack 48 = .ok (.iload 6, 2) := by decide +kernel
theorem dX5_putsBack_50 : decode cX5_putsBack 50 = .ok (.aload_n 0, 1) := by decide +kernel
theorem dX5_putsBack_51 : decode cX5_putsBack 51 = .ok (.getfield 53, 3) := by decide +kernel
theorem dX5_putsBack_54 : decode cX5_putsBack 54 = .ok (.if_icmp .ge 101, 3) := by decide +kernel
theorem dX5_putsBack_57 : decode cX5_putsBack 57 = .ok (.iload_n 1, 1) := by decide +kernel
theorem dX5_putsBack_58 : decode cX5_putsBack 58 = .ok (.iload 6, 2) := by decide +kernel
theorem dX5_putsBack_60 : decode cX5_putsBack 60 = .ok (.iload_n 2, 1) := by decide +kernel
theorem dX5_putsBack_61 : decode cX5_putsBack 61 = .ok (.iload 4, 2) := by decide +kernel
theorem dX5_putsBack_63 : decode cX5_putsBack 63 = .ok (.isub, 1) := by decide +kernel
theorem dX5_putsBack_64 : decode cX5_putsBack 64 = .ok (.imul, 1) := by decide +kernel
theorem dX5_putsBack_65 : decode cX5_putsBack 65 = .ok (.aload_n 0, 1) := by decide +kernel
theorem dX5_putsBack_66 : decode cX5_putsBack 66 = .ok (.getfield 53, 3) := by decide +kernel
theorem dX5_putsBack_69 : decode cX5_putsBack 69 = .ok (.idiv, 1) := by decide +kernel
theorem dX5_putsBack_70 : decode cX5_putsBack 70 = .ok (.iadd, 1) := by decide +kernel
theorem dX5_putsBack_71 : decode cX5_putsBack 71 = .ok (.iload_n 3, 1) := by decide +kernel
theorem dX5_putsBack_72 : decode cX5_putsBack 72 = .ok (.ifCond .eq 17, 3) := by decide +kernel
theorem dX5_putsBack_75 : decode cX5_putsBack 75 = .ok (.iload 6, 2) := by decide +kernel
theorem dX5_putsBack_77 : decode cX5_putsBack 77 = .ok (.aload_n 0, 1) := by decide +kernel
theorem dX5_putsBack_78 : decode cX5_putsBack 78 = .ok (.getfield 56, 3) := by decide +kernel
theorem dX5_putsBack_81 : decode cX5_putsBack 81 = .ok (.if_icmp .le 8, 3) := by decide +kernel
theorem dX5_putsBack_84 : decode cX5_putsBack 84 = .ok (.iload 4, 2) := by decide +kernel
theorem dX5_putsBack_86 : decode cX5_putsBack 86 = .ok (.goto 4, 3) := by decide +kernel
theorem dX5_putsBack_89 : decode cX5_putsBack 89 = .ok (.iconst 0, 1) := by decide +kernel
theorem dX5_putsBack_90 : decode cX5_putsBack 90 = .ok (.iadd, 1) := by decide +kernel
theorem dX5_putsBack_91 : decode cX5_putsBack 91 = .ok (.istore 7, 2) := by decide +kernel
theorem dX5_putsBack_93 : decode cX5_putsBack 93 = .ok (.aload_n 0, 1) := by decide +kernel
theorem dX5_putsBack_94 : decode cX5_putsBack 94 = .ok (.getfield 7, 3) := by decide +kernel
theorem dX5_putsBack_97 : decode cX5_putsBack 97 = .ok (.bipush 31, 2) := by decide +kernel
theorem dX5_putsBack_99 : decode cX5_putsBack 99 = .ok (.iload 7, 2) := by decide +kernel
theorem dX5_putsBack_101 : decode cX5_putsBack 101 = .ok (.iadd, 1) := by decide +kernel
theorem dX5_putsBack_102 : decode cX5_putsBack 102 = .ok (.aload_n 0, 1) := by decide +kernel
theorem dX5_putsBack_103 : decode cX5_putsBack 103 = .ok (.getfield 22, 3) := by decide +kernel
theorem dX5_putsBack_106 : decode cX5_putsBack 106 = .ok (.iload 6, 2) := by decide +kernel
theorem dX5_putsBack_108 : decode cX5_putsBack 108 = .ok (.iaload, 1) := by decide +kernel
theorem dX5_putsBack_109 : decode cX5_putsBack 109 = .ok (.iastore, 1) := by decide +kernel
theorem dX5_putsBack_110 : decode cX5_putsBack 110 = .ok (.aload_n 0, 1) := by decide +kernel
theorem dX5_putsBack_111 : decode cX5_putsBack 111 = .ok (.getfield 7, 3) := by decide +kernel
theorem dX5_putsBack_114 : decode cX5_putsBack 114 = .ok (.bipush 95, 2) := by decide +kernel
theorem dX5_putsBack_116 : decode cX5_putsBack 116 = .ok (.iload 7, 2) := by decide +kernel
theorem dX5_putsBack_118 : decode cX5_putsBack 118 = .ok (.iadd, 1) := by decide +kernel
theorem dX5_putsBack_119 : decode cX5_putsBack 119 = .ok (.aload_n 0, 1) := by decide +kernel
theorem dX5_putsBack_120 : decode cX5_putsBack 120 = .ok (.getfield 25, 3) := by decide +kernel
theorem dX5_putsBack_123 : decode cX5_putsBack 123 = .ok (.iload 6, 2) := by decide +kernel
theorem dX5_putsBack_125 : decode cX5_putsBack 125 = .ok (.iaload, 1) := by decide +kernel
theorem dX5_putsBack_126 : decode cX5_putsBack 126 = .ok (.iastore, 1) := by decide +kernel
theorem dX5_putsBack_127 : decode cX5_putsBack 127 = .ok (.iload 5, 2) := by decide +kernel
theorem dX5_putsBack_129 : decode cX5_putsBack 129 = .ok (.aload_n 0, 1) := by decide +kernel
theorem dX5_putsBack_130 : decode cX5_putsBack 130 = .ok (.getfield 28, 3) := by decide +kernel
theorem dX5_putsBack_133 : decode cX5_putsBack 133 = .ok (.iload 6, 2) := by decide +kernel
theorem dX5_putsBack_135 : decode cX5_putsBack 135 = .ok (.iaload, 1) := by decide +kernel
theorem dX5_putsBack_136 : decode cX5_putsBack 136 = .ok (.iload 7, 2) := by decide +kernel
theorem dX5_putsBack_138 : decode cX5_putsBack 138 = .ok (.if_icmp .ne 7, 3) := by decide +kernel
theorem dX5_putsBack_141 : decode cX5_putsBack 141 = .ok (.iconst 0, 1) := by decide +kernel
theorem dX5_putsBack_142 : decode cX5_putsBack 142 = .ok (.goto 4, 3) := by decide +kernel
theorem dX5_putsBack_145 : decode cX5_putsBack 145 = .ok (.iconst 1, 1) := by decide +kernel
theorem dX5_putsBack_146 : decode cX5_putsBack 146 = .ok (.iadd, 1) := by decide +kernel
theorem dX5_putsBack_147 : decode cX5_putsBack 147 = .ok (.istore 5, 2) := by decide +kernel
theorem dX5_putsBack_149 : decode cX5_putsBack 149 = .ok (.iinc 6 1, 3) := by decide +kernel
theorem dX5_putsBack_152 : decode cX5_putsBack 152 = .ok (.goto (-104), 3) := by decide +kernel
theorem dX5_putsBack_155 : decode cX5_putsBack 155 = .ok (.aload_n 0, 1) := by decide +kernel
theorem dX5_putsBack_156 : decode cX5_putsBack 156 = .ok (.getfield 7, 3) := by decide +kernel
theorem dX5_putsBack_159 : decode cX5_putsBack 159 = .ok (.iconst 2, 1) := by decide +kernel
theorem dX5_putsBack_160 : decode cX5_putsBack 160 = .ok (.dup2, 1) := by decide +kernel
theorem dX5_putsBack_161 : decode cX5_putsBack 161 = .ok (.iaload, 1) := by decide +kernel
theorem dX5_putsBack_162 : decode cX5_putsBack 162 = .ok (.iconst 1, 1) := by decide +kernel
theorem dX5_putsBack_163 : decode cX5_putsBack 163 = .ok (.iadd, 1) := by decide +kernel
theorem dX5_putsBack_164 : decode cX5_putsBack 164 = .ok (.iastore, 1) := by decide +kernel
theorem dX5_putsBack_165 : decode cX5_putsBack 165 = .ok (.aload_n 0, 1) := by decide +kernel
theorem dX5_putsBack_166 : decode cX5_putsBack 166 = .ok (.getfield 7, 3) := by decide +kernel
theorem dX5_putsBack_169 : decode cX5_putsBack 169 = .ok (.iconst 3, 1) := by decide +kernel
theorem dX5_putsBack_170 : decode cX5_putsBack 170 = .ok (.dup2, 1) := by decide +kernel
theorem dX5_putsBack_171 : decode cX5_putsBack 171 = .ok (.iaload, 1) := by decide +kernel
theorem dX5_putsBack_172 : decode cX5_putsBack 172 = .ok (.iload 5, 2) := by decide +kernel
theorem dX5_putsBack_174 : decode cX5_putsBack 174 = .ok (.iadd, 1) := by decide +kernel
theorem dX5_putsBack_175 : decode cX5_putsBack 175 = .ok (.iastore, 1) := by decide +kernel
theorem dX5_putsBack_176 : decode cX5_putsBack 176 = .ok (.bipush 23, 2) := by decide +kernel
theorem dX5_putsBack_178 : decode cX5_putsBack 178 = .ok (.istore 6, 2) := by decide +kernel
theorem dX5_putsBack_180 : decode cX5_putsBack 180 = .ok (.iload 6, 2) := by decide +kernel
theorem dX5_putsBack_182 : decode cX5_putsBack 182 = .ok (.iconst 3, 1) := by decide +kernel
theorem dX5_putsBack_183 : decode cX5_putsBack 183 = .ok (.if_icmp .lt 31, 3) := by decide +kernel
theorem dX5_putsBack_186 : decode cX5_putsBack 186 = .ok (.aload_n 0, 1) := by decide +kernel
theorem dX5_putsBack_187 : decode cX5_putsBack 187 = .ok (.getfield 7, 3) := by decide +kernel
theorem dX5_putsBack_190 : decode cX5_putsBack 190 = .ok (.bipush 7, 2) := by decide +kernel
theorem dX5_putsBack_192 : decode cX5_putsBack 192 = .ok (.iload 6, 2) := by decide +kernel
theorem dX5_putsBack_194 : decode cX5_putsBack 194 = .ok (.iadd, 1) := by decide +kernel
theorem dX5_putsBack_195 : decode cX5_putsBack 195 = .ok (.aload_n 0, 1) := by decide +kernel
theorem dX5_putsBack_196 : decode cX5_putsBack 196 = .ok (.getfield 7, 3) := by decide +kernel
theorem dX5_putsBack_199 : decode cX5_putsBack 199 = .ok (.bipush 7, 2) := by decide +kernel
theorem dX5_putsBack_201 : decode cX5_putsBack 201 = .ok (.iload 6, 2) := by decide +kernel
theorem dX5_putsBack_203 : decode cX5_putsBack 203 = .ok (.iadd, 1) := by decide +kernel
theorem dX5_putsBack_204 : decode cX5_putsBack 204 = .ok (.iconst 3, 1) := by decide +kernel
theorem dX5_putsBack_205 : decode cX5_putsBack 205 = .ok (.isub, 1) := by decide +kernel
theorem dX5_putsBack_206 : decode cX5_putsBack 206 = .ok (.iaload, 1) := by decide +kernel
theorem dX5_putsBack_207 : decode cX5_putsBack 207 = .ok (.iastore, 1) := by decide +kernel
theorem dX5_putsBack_208 : decode cX5_putsBack 208 = .ok (.iinc 6 (-1), 3) := by decide +kernel
theorem dX5_putsBack_211 : decode cX5_putsBack 211 = .ok (.goto (-31), 3) := by decide +kernel
theorem dX5_putsBack_214 : decode cX5_putsBack 214 = .ok (.aload_n 0, 1) := by decide +kernel
theorem dX5_putsBack_215 : decode cX5_putsBack 215 = .ok (.getfield 7, 3) := by decide +kernel
theorem dX5_putsBack_218 : decode cX5_putsBack 218 = .ok (.bipush 7, 2) := by decide +kernel
theorem dX5_putsBack_220 : decode cX5_putsBack 220 = .ok (.iload_n 1, 1) := by decide +kernel
theorem dX5_putsBack_221 : decode cX5_putsBack 221 = .ok (.iastore, 1) := by decide +kernel
theorem dX5_putsBack_222 : decode cX5_putsBack 222 = .ok (.aload_n 0, 1) := by decide +kernel
theorem dX5_putsBack_223 : decode cX5_putsBack 223 = .ok (.getfield 7, 3) := by decide +kernel
theorem dX5_putsBack_226 : decode cX5_putsBack 226 = .ok (.bipush 8, 2) := by decide +kernel
theorem dX5_putsBack_228 : decode cX5_putsBack 228 = .ok (.iload_n 2, 1) := by decide +kernel
theorem dX5_putsBack_229 : decode cX5_putsBack 229 = .ok (.iastore, 1) := by decide +kernel
theorem dX5_putsBack_230 : decode cX5_putsBack 230 = .ok (.aload_n 0, 1) := by decide +kernel
theorem dX5_putsBack_231 : decode cX5_putsBack 231 = .ok (.getfield 7, 3) := by decide +kernel
theorem dX5_putsBack_234 : decode cX5_putsBack 234 = .ok (.bipush 9, 2) := by decide +kernel
theorem dX5_putsBack_236 : decode cX5_putsBack 236 = .ok (.iload 5, 2) := by decide +kernel
theorem dX5_putsBack_238 : decode cX5_putsBack 238 = .ok (.iastore, 1) := by decide +kernel
theorem dX5_putsBack_239 : decode cX5_putsBack 239 = .ok (.aload_n 0, 1) := by decide +kernel
theorem dX5_putsBack_240 : decode cX5_putsBack 240 = .ok (.getfield 7, 3) := by decide +kernel
theorem dX5_putsBack_243 : decode cX5_putsBack 243 = .ok (.bipush 6, 2) := by decide +kernel
theorem dX5_putsBack_245 : decode cX5_putsBack 245 = .ok (.dup2, 1) := by decide +kernel
theorem dX5_putsBack_246 : decode cX5_putsBack 246 = .ok (.iaload, 1) := by decide +kernel
theorem dX5_putsBack_247 : decode cX5_putsBack 247 = .ok (.aload_n 0, 1) := by decide +kernel
theorem dX5_putsBack_248 : decode cX5_putsBack 248 = .ok (.getfield 7, 3) := by decide +kernel
theorem dX5_putsBack_251 : decode cX5_putsBack 251 = .ok (.bipush 6, 2) := by decide +kernel
theorem dX5_putsBack_253 : decode cX5_putsBack 253 = .ok (.iaload, 1) := by decide +kernel
theorem dX5_putsBack_254 : decode cX5_putsBack 254 = .ok (.bipush 8, 2) := by decide +kernel
theorem dX5_putsBack_256 : decode cX5_putsBack 256 = .ok (.if_icmp .ge 7, 3) := by decide +kernel
theorem dX5_putsBack_259 : decode cX5_putsBack 259 = .ok (.iconst 1, 1) := by decide +kernel
theorem dX5_putsBack_260 : decode cX5_putsBack 260 = .ok (.goto 4, 3) := by decide +kernel
theorem dX5_putsBack_263 : decode cX5_putsBack 263 = .ok (.iconst 0, 1) := by decide +kernel
theorem dX5_putsBack_264 : decode cX5_putsBack 264 = .ok (.iadd, 1) := by decide +kernel
theorem dX5_putsBack_265 : decode cX5_putsBack 265 = .ok (.iastore, 1) := by decide +kernel
theorem dX5_putsBack_266 : decode cX5_putsBack 266 = .ok (.iload 5, 2) := by decide +kernel
theorem dX5_putsBack_268 : decode cX5_putsBack 268 = .ok (.ireturn, 1) := by decide +kernel
theorem dX5_spacesWindow_0 : decode cX5_spacesWindow 0 = .ok (.aload_n 0, 1) := by decide +kernel
theorem dX5_spacesWindow_1 : decode cX5_spacesWindow 1 = .ok (.iload_n 1, 1) := by decide +kernel
theorem dX5_spacesWindow_2 : decode cX5_spacesWindow 2 = .ok (.iload_n 2, 1) := by decide +kernel
theorem dX5_spacesWindow_3 : decode cX5_spacesWindow 3 = .ok (.iload_n 3, 1) := by decide +kernel
theorem dX5_spacesWindow_4 : decode cX5_spacesWindow 4 = .ok (.iload 4, 2) := by decide +kernel
theorem dX5_spacesWindow_6 : decode cX5_spacesWindow 6 = .ok (.invokevirtual 63, 3) := by decide +kernel
theorem dX5_spacesWindow_9 : decode cX5_spacesWindow 9 = .ok (.aload_n 0, 1) := by decide +kernel
theorem dX5_spacesWindow_10 : decode cX5_spacesWindow 10 = .ok (.iload_n 1, 1) := by decide +kernel
theorem dX5_spacesWindow_11 : decode cX5_spacesWindow 11 = .ok (.iload_n 2, 1) := by decide +kernel
theorem dX5_spacesWindow_12 : decode cX5_spacesWindow 12 = .ok (.invokevirtual 67, 3) := by decide +kernel
theorem dX5_spacesWindow_15 : decode cX5_spacesWindow 15 = .ok (.ireturn, 1) := by decide +kernel
theorem dX5_segmentFor_0 : decode cX5_segmentFor 0 = .ok (.iconst 0, 1) := by decide +kernel
theorem dX5_segmentFor_1 : decode cX5_segmentFor 1 = .ok (.istore_n 2, 1) := by decide +kernel
theorem dX5_segmentFor_2 : decode cX5_segmentFor 2 = .ok (.iconst 0, 1) := by decide +kernel
theorem dX5_segmentFor_3 : decode cX5_segmentFor 3 = .ok (.istore_n 3, 1) := by decide +kernel
theorem dX5_segmentFor_4 : decode cX5_segmentFor 4 = .ok (.iload_n 3, 1) := by decide +kernel
theorem dX5_segmentFor_5 : decode cX5_segmentFor 5 = .ok (.aload_n 0, 1) := by decide +kernel
theorem dX5_segmentFor_6 : decode cX5_segmentFor 6 = .ok (.getfield 7, 3) := by decide +kernel
theorem dX5_segmentFor_9 : decode cX5_segmentFor 9 = .ok (.iconst 0, 1) := by decide +kernel
theorem dX5_segmentFor_10 : decode cX5_segmentFor 10 = .ok (.iaload, 1) := by decide +kernel
theorem dX5_segmentFor_11 : decode cX5_segmentFor 11 = .ok (.if_icmp .ge 43, 3) := by decide +kernel
theorem dX5_segmentFor_14 : decode cX5_segmentFor 14 = .ok (.aload_n 0, 1) := by decide +kernel
theorem dX5_segmentFor_15 : decode cX5_segmentFor 15 = .ok (.getfield 7, 3) := by decide +kernel
theorem dX5_segmentFor_18 : decode cX5_segmentFor 18 = .ok (.bipush 31, 2) := by decide +kernel
theorem dX5_segmentFor_20 : decode cX5_segmentFor 20 = .ok (.iload_n 3, 1) := by decide +kernel
theorem dX5_segmentFor_21 : decode cX5_segmentFor 21 = .ok (.iadd, 1) := by decide +kernel
theorem dX5_segmentFor_22 : decode cX5_segmentFor 22 = .ok (.iaload, 1) := by decide +kernel
theorem dX5_segmentFor_23 : decode cX5_segmentFor 23 = .ok (.iconst (-1), 1) := by decide +kernel
theorem dX5_segmentFor_24 : decode cX5_segmentFor 24 = .ok (.if_icmp .eq 22, 3) := by decide +kernel
theorem dX5_segmentFor_27 : decode cX5_segmentFor 27 = .ok (.aload_n 0, 1) := by decide +kernel
theorem dX5_segmentFor_28 : decode cX5_segmentFor 28 = .ok (.getfield 7, 3) := by decide +kernel
theorem dX5_segmentFor_31 : decode cX5_segmentFor 31 = .ok (.bipush 31, 2) := by decide +kernel
theorem dX5_segmentFor_33 : decode cX5_segmentFor 33 = .ok (.iload_n 3, 1) := by decide +kernel
theorem dX5_segmentFor_34 : decode cX5_segmentFor 34 = .ok (.iadd, 1) := by decide +kernel
theorem dX5_segmentFor_35 : decode cX5_segmentFor 35 = .ok (.iaload, 1) := by decide +kernel
theorem dX5_segmentFor_36 : decode cX5_segmentFor 36 = .ok (.iload_n 1, 1) := by decide +kernel
theorem dX5_segmentFor_37 : decode cX5_segmentFor 37 = .ok (.if_icmp .ge 9, 3) := by decide +kernel
theorem dX5_segmentFor_40 : decode cX5_segmentFor 40 = .ok (.iload_n 3, 1) := by decide +kernel
theorem dX5_segmentFor_41 : decode cX5_segmentFor 41 = .ok (.iconst 4, 1) := by decide +kernel
theorem dX5_segmentFor_42 : decode cX5_segmentFor 42 = .ok (.idiv, 1) := by decide +kernel
theorem dX5_segmentFor_43 : decode cX5_segmentFor 43 = .ok (.goto 4, 3) := by decide +kernel
theorem dX5_segmentFor_46 : decode cX5_segmentFor 46 = .ok (.iload_n 2, 1) := by decide +kernel
theorem dX5_segmentFor_47 : decode cX5_segmentFor 47 = .ok (.istore_n 2, 1) := by decide +kernel
theorem dX5_segmentFor_48 : decode cX5_segmentFor 48 = .ok (.iinc 3 1, 3) := by decide +kernel
theorem dX5_segmentFor_51 : decode cX5_segmentFor 51 = .ok (.goto (-47), 3) := by decide +kernel
theorem dX5_segmentFor_54 : decode cX5_segmentFor 54 = .ok (.iload_n 2, 1) := by decide +kernel
theorem dX5_segmentFor_55 : decode cX5_segmentFor 55 = .ok (.ireturn, 1) := by decide +kernel
theorem dX5_comes_0 : decode cX5_comes 0 = .ok (.aload_n 0, 1) := by decide +kernel
theorem dX5_comes_1 : decode cX5_comes 1 = .ok (.iload_n 1, 1) := by decide +kernel
theorem dX5_comes_2 : decode cX5_comes 2 = .ok (.invokevirtual 71, 3) := by decide +kernel
theorem dX5_comes_5 : decode cX5_comes 5 = .ok (.istore_n 3, 1) := by decide +kernel
theorem dX5_comes_6 : decode cX5_comes 6 = .ok (.iconst 0, 1) := by decide +kernel
theorem dX5_comes_7 : decode cX5_comes 7 = .ok (.istore 4, 2) := by decide +kernel
theorem dX5_comes_9 : decode cX5_comes 9 = .ok (.iload 4, 2) := by decide +kernel
theorem dX5_comes_11 : decode cX5_comes 11 = .ok (.aload_n 0, 1) := by decide +kernel
theorem dX5_comes_12 : decode cX5_comes 12 = .ok (.invokevirtual 49, 3) := by decide +kernel
theorem dX5_comes_15 : decode cX5_comes 15 = .ok (.if_icmp .gt 62, 3) := by decide +kernel
theorem dX5_comes_18 : decode cX5_comes 18 = .ok (.iload_n 3, 1) := by decide +kernel
theorem dX5_comes_19 : decode cX5_comes 19 = .ok (.iconst 4, 1) := by decide +kernel
theorem dX5_comes_20 : decode cX5_comes 20 = .ok (.imul, 1) := by decide +kernel
theorem dX5_comes_21 : decode cX5_comes 21 = .ok (.iload 4, 2) := by decide +kernel
theorem dX5_comes_23 : decode cX5_comes 23 = .ok (.invokestatic 45, 3) := by decide +kernel
theorem dX5_comes_26 : decode cX5_comes 26 = .ok (.idiv, 1) := by decide +kernel
theorem dX5_comes_27 : decode cX5_comes 27 = .ok (.iload 4, 2) := by decide +kernel
theorem dX5_comes_29 : decode cX5_comes 29 = .ok (.invokestatic 45, 3) := by decide +kernel
theorem dX5_comes_32 : decode cX5_comes 32 = .ok (.imul, 1) := by decide +kernel
theorem dX5_comes_33 : decode cX5_comes 33 = .ok (.istore 5, 2) := by decide +kernel
theorem dX5_comes_35 : decode cX5_comes 35 = .ok (.aload_n 0, 1) := by decide +kernel
theorem dX5_comes_36 : decode cX5_comes 36 = .ok (.iload 5, 2) := by decide +kernel
theorem dX5_comes_38 : decode cX5_comes 38 = .ok (.iload 4, 2) := by decide +kernel
theorem dX5_comes_40 : decode cX5_comes 40 = .ok (.invokestatic 45, 3) := by decide +kernel
theorem dX5_comes_43 : decode cX5_comes 43 = .ok (.invokevirtual 74, 3) := by decide +kernel
theorem dX5_comes_46 : decode cX5_comes 46 = .ok (.iconst 1, 1) := by decide +kernel
theorem dX5_comes_47 : decode cX5_comes 47 = .ok (.iadd, 1) := by decide +kernel
theorem dX5_comes_48 : decode cX5_comes 48 = .ok (.aload_n 0, 1) := by decide +kernel
theorem dX5_comes_49 : decode cX5_comes 49 = .ok (.iload 4, 2) := by decide +kernel
theorem dX5_comes_51 : decode cX5_comes 51 = .ok (.invokevirtual 77, 3) := by decide +kernel
theorem dX5_comes_54 : decode cX5_comes 54 = .ok (.if_icmp .gt 17, 3) := by decide +kernel
theorem dX5_comes_57 : decode cX5_comes 57 = .ok (.aload_n 0, 1) := by decide +kernel
theorem dX5_comes_58 : decode cX5_comes 58 = .ok (.iload 5, 2) := by decide +kernel
theorem dX5_comes_60 : decode cX5_comes 60 = .ok (.iload 4, 2) := by decide +kernel
theorem dX5_comes_62 : decode cX5_comes 62 = .ok (.invokestatic 45, 3) := by decide +kernel
theorem dX5_comes_65 : decode cX5_comes 65 = .ok (.iload_n 1, 1) := by decide +kernel
theorem dX5_comes_66 : decode cX5_comes 66 = .ok (.iload_n 2, 1) := by decide +kernel
theorem dX5_comes_67 : decode cX5_comes 67 = .ok (.invokevirtual 80, 3) := by decide +kernel
theorem dX5_comes_70 : decode cX5_comes 70 = .ok (.ireturn, 1) := by decide +kernel
theorem dX5_comes_71 : decode cX5_comes 71 = .ok (.iinc 4 1, 3) := by decide +kernel
theorem dX5_comes_74 : decode cX5_comes 74 = .ok (.goto (-65), 3) := by decide +kernel
theorem dX5_comes_77 : decode cX5_comes 77 = .ok (.aload_n 0, 1) := by decide +kernel
theorem dX5_comes_78 : decode cX5_comes 78 = .ok (.getfield 7, 3) := by decide +kernel
theorem dX5_comes_81 : decode cX5_comes 81 = .ok (.iconst 0, 1) := by decide +kernel
theorem dX5_comes_82 : decode cX5_comes 82 = .ok (.iaload, 1) := by decide +kernel
theorem dX5_comes_83 : decode cX5_comes 83 = .ok (.bipush 64, 2) := by decide +kernel
theorem dX5_comes_85 : decode cX5_comes 85 = .ok (.if_icmp .ne 6, 3) := by decide +kernel
theorem dX5_comes_88 : decode cX5_comes 88 = .ok (.bipush (-4), 2) := by decide +kernel
theorem dX5_comes_90 : decode cX5_comes 90 = .ok (.ireturn, 1) := by decide +kernel
theorem dX5_comes_91 : decode cX5_comes 91 = .ok (.aload_n 0, 1) := by decide +kernel
theorem dX5_comes_92 : decode cX5_comes 92 = .ok (.iconst 0, 1) := by decide +kernel
theorem dX5_comes_93 : decode cX5_comes 93 = .ok (.aload_n 0, 1) := by decide +kernel
theorem dX5_comes_94 : decode cX5_comes 94 = .ok (.getfield 7, 3) := by decide +kernel
theorem dX5_comes_97 : decode cX5_comes 97 = .ok (.iconst 0, 1) := by decide +kernel
theorem dX5_comes_98 : decode cX5_comes 98 = .ok (.iaload, 1) := by decide +kernel
theorem dX5_comes_99 : decode cX5_comes 99 = .ok (.iload_n 1, 1) := by decide +kernel
theorem dX5_comes_100 : decode cX5_comes 100 = .ok (.iload_n 2, 1) := by decide +kernel
theorem dX5_comes_101 : decode cX5_comes 101 = .ok (.invokevirtual 63, 3) := by decide +kernel
theorem dX5_comes_104 : decode cX5_comes 104 = .ok (.aload_n 0, 1) := by decide +kernel
theorem dX5_comes_105 : decode cX5_comes 105 = .ok (.getfield 7, 3) := by decide +kernel
theorem dX5_comes_108 : decode cX5_comes 108 = .ok (.iconst 0, 1) := by decide +kernel
theorem dX5_comes_109 : decode cX5_comes 109 = .ok (.dup2, 1) := by decide +kernel
theorem dX5_comes_110 : decode cX5_comes 110 = .ok (.iaload, 1) := by decide +kernel
theorem dX5_comes_111 : decode cX5_comes 111 = .ok (.iconst 2, 1) := by decide +kernel
theorem dX5_comes_112 : decode cX5_comes 112 = .ok (.imul, 1) := by decide +kernel
theorem dX5_comes_113 : decode cX5_comes 113 = .ok (.iastore, 1) := by decide +kernel
theorem dX5_comes_114 : decode cX5_comes 114 = .ok (.aload_n 0, 1) := by decide +kernel
theorem dX5_comes_115 : decode cX5_comes 115 = .ok (.getfield 7, 3) := by decide +kernel
theorem dX5_comes_118 : decode cX5_comes 118 = .ok (.iconst 4, 1) := by decide +kernel
theorem dX5_comes_119 : decode cX5_comes 119 = .ok (.dup2, 1) := by decide +kernel
theorem dX5_comes_120 : decode cX5_comes 120 = .ok (.iaload, 1) := by decide +kernel
theorem dX5_comes_121 : decode cX5_comes 121 = .ok (.iconst 1, 1) := by decide +kernel
theorem dX5_comes_122 : decode cX5_comes 122 = .ok (.iadd, 1) := by decide +kernel
theorem dX5_comes_123 : decode cX5_comes 123 = .ok (.iastore, 1) := by decide +kernel
theorem dX5_comes_124 : decode cX5_comes 124 = .ok (.aload_n 0, 1) := by decide +kernel
theorem dX5_comes_125 : decode cX5_comes 125 = .ok (.iconst 0, 1) := by decide +kernel
theorem dX5_comes_126 : decode cX5_comes 126 = .ok (.aload_n 0, 1) := by decide +kernel
theorem dX5_comes_127 : decode cX5_comes 127 = .ok (.getfield 7, 3) := by decide +kernel
theorem dX5_comes_130 : decode cX5_comes 130 = .ok (.iconst 0, 1) := by decide +kernel
theorem dX5_comes_131 : decode cX5_comes 131 = .ok (.iaload, 1) := by decide +kernel
theorem dX5_comes_132 : decode cX5_comes 132 = .ok (.invokevirtual 67, 3) := by decide +kernel
theorem dX5_comes_135 : decode cX5_comes 135 = .ok (.ireturn, 1) := by decide +kernel
theorem dX5_goes_0 : decode cX5_goes 0 = .ok (.aload_n 0, 1) := by decide +kernel
theorem dX5_goes_1 : decode cX5_goes 1 = .ok (.getfield 7, 3) := by decide +kernel
theorem dX5_goes_4 : decode cX5_goes 4 = .ok (.bipush 31, 2) := by decide +kernel
theorem dX5_goes_6 : decode cX5_goes 6 = .ok (.iload_n 1, 1) := by decide +kernel
theorem dX5_goes_7 : decode cX5_goes 7 = .ok (.iadd, 1) := by decide +kernel
theorem dX5_goes_8 : decode cX5_goes 8 = .ok (.iconst (-1), 1) := by decide +kernel
theorem dX5_goes_9 : decode cX5_goes 9 = .ok (.iastore, 1) := by decide +kernel
theorem dX5_goes_10 : decode cX5_goes 10 = .ok (.aload_n 0, 1) := by decide +kernel
theorem dX5_goes_11 : decode cX5_goes 11 = .ok (.getfield 7, 3) := by decide +kernel
theorem dX5_goes_14 : decode cX5_goes 14 = .ok (.bipush 95, 2) := by decide +kernel
theorem dX5_goes_16 : decode cX5_goes 16 = .ok (.iload_n 1, 1) := by decide +kernel
theorem dX5_goes_17 : decode cX5_goes 17 = .ok (.iadd, 1) := by decide +kernel
theorem dX5_goes_18 : decode cX5_goes 18 = .ok (.iconst 0, 1) := by decide +kernel
theorem dX5_goes_19 : decode cX5_goes 19 = .ok (.iastore, 1) := by decide +kernel
theorem dX5_goes_20 : decode cX5_goes 20 = .ok (.aload_n 0, 1) := by decide +kernel
theorem dX5_goes_21 : decode cX5_goes 21 = .ok (.iload_n 1, 1) := by decide +kernel
theorem dX5_goes_22 : decode cX5_goes 22 = .ok (.iconst 4, 1) := by decide +kernel
theorem dX5_goes_23 : decode cX5_goes 23 = .ok (.idiv, 1) := by decide +kernel
theorem dX5_goes_24 : decode cX5_goes 24 = .ok (.iconst 4, 1) := by decide +kernel
theorem dX5_goes_25 : decode cX5_goes 25 = .ok (.imul, 1) := by decide +kernel
theorem dX5_goes_26 : decode cX5_goes 26 = .ok (.iconst 4, 1) := by decide +kernel
theorem dX5_goes_27 : decode cX5_goes 27 = .ok (.invokevirtual 74, 3) := by decide +kernel
theorem dX5_goes_30 : decode cX5_goes 30 = .ok (.aload_n 0, 1) := by decide +kernel
theorem dX5_goes_31 : decode cX5_goes 31 = .ok (.iconst 0, 1) := by decide +kernel
theorem dX5_goes_32 : decode cX5_goes 32 = .ok (.invokevirtual 84, 3) := by decide +kernel
theorem dX5_goes_35 : decode cX5_goes 35 = .ok (.if_icmp .lt 4, 3) := by decide +kernel
theorem dX5_goes_38 : decode cX5_goes 38 = .ok (.return_, 1) := by decide +kernel
theorem dX5_goes_39 : decode cX5_goes 39 = .ok (.iconst 1, 1) := by decide +kernel
theorem dX5_goes_40 : decode cX5_goes 40 = .ok (.istore_n 2, 1) := by decide +kernel
theorem dX5_goes_41 : decode cX5_goes 41 = .ok (.iload_n 2, 1) := by decide +kernel
theorem dX5_goes_42 : decode cX5_goes 42 = .ok (.aload_n 0, 1) := by decide +kernel
theorem dX5_goes_43 : decode cX5_goes 43 = .ok (.invokevirtual 49, 3) := by decide +kernel
theorem dX5_goes_46 : decode cX5_goes 46 = .ok (.if_icmp .gt 51, 3) := by decide +kernel
theorem dX5_goes_49 : decode cX5_goes 49 = .ok (.iload_n 1, 1) := by decide +kernel
theorem dX5_goes_50 : decode cX5_goes 50 = .ok (.iload_n 2, 1) := by decide +kernel
theorem dX5_goes_51 : decode cX5_goes 51 = .ok (.invokestatic 45, 3) := by decide +kernel
theorem dX5_goes_54 : decode cX5_goes 54 = .ok (.idiv, 1) := by decide +kernel
theorem dX5_goes_55 : decode cX5_goes 55 = .ok (.iload_n 2, 1) := by decide +kernel
theorem dX5_goes_56 : decode cX5_goes 56 = .ok (.invokestatic 45, 3) := by decide +kernel
theorem dX5_goes_59 : decode cX5_goes 59 = .ok (.imul, 1) := by decide +kernel
theorem dX5_goes_60 : decode cX5_goes 60 = .ok (.istore_n 3, 1) := by decide +kernel
theorem dX5_goes_61 : decode cX5_goes 61 = .ok (.aload_n 0, 1) := by decide +kernel
theorem dX5_goes_62 : decode cX5_goes 62 = .ok (.iload_n 3, 1) := by decide +kernel
theorem dX5_goes_63 : decode cX5_goes 63 = .ok (.iload_n 2, 1) := by decide +kernel
theorem dX5_goes_64 : decode cX5_goes 64 = .ok (.invokestatic 45, 3) := by decide +kernel
theorem dX5_goes_67 : decode cX5_goes 67 = .ok (.invokevirtual 74, 3) := by decide +kernel
theorem dX5_goes_70 : decode cX5_goes 70 = .ok (.aload_n 0, 1) := by decide +kernel
theorem dX5_goes_71 : decode cX5_goes 71 = .ok (.iload_n 2, 1) := by decide +kernel
theorem dX5_goes_72 : decode cX5_goes 72 = .ok (.invokevirtual 84, 3) := by decide +kernel
theorem dX5_goes_75 : decode cX5_goes 75 = .ok (.if_icmp .lt 16, 3) := by decide +kernel
theorem dX5_goes_78 : decode cX5_goes 78 = .ok (.aload_n 0, 1) := by decide +kernel
theorem dX5_goes_79 : decode cX5_goes 79 = .ok (.iload_n 3, 1) := by decide +kernel
theorem dX5_goes_80 : decode cX5_goes 80 = .ok (.iload_n 2, 1) := by decide +kernel
theorem dX5_goes_81 : decode cX5_goes 81 = .ok (.invokestatic 45, 3) := by decide +kernel
theorem dX5_goes_84 : decode cX5_goes 84 = .ok (.iconst (-1), 1) := by decide +kernel
theorem dX5_goes_85 : decode cX5_goes 85 = .ok (.iconst 0, 1) := by decide +kernel
theorem dX5_goes_86 : decode cX5_goes 86 = .ok (.invokevirtual 80, 3) := by decide +kernel
theorem dX5_goes_89 : decode cX5_goes 89 = .ok (.pop, 1) := by decide +kernel
theorem dX5_goes_90 : decode cX5_goes 90 = .ok (.return_, 1) := by decide +kernel
theorem dX5_goes_91 : decode cX5_goes 91 = .ok (.iinc 2 1, 3) := by decide +kernel
theorem dX5_goes_94 : decode cX5_goes 94 = .ok (.goto (-53), 3) := by decide +kernel
theorem dX5_goes_97 : decode cX5_goes 97 = .ok (.aload_n 0, 1) := by decide +kernel
theorem dX5_goes_98 : decode cX5_goes 98 = .ok (.iconst 0, 1) := by decide +kernel
theorem dX5_goes_99 : decode cX5_goes 99 = .ok (.aload_n 0, 1) := by decide +kernel
theorem dX5_goes_100 : decode cX5_goes 100 = .ok (.getfield 7, 3) := by decide +kernel
theorem dX5_goes_103 : decode cX5_goes 103 = .ok (.iconst 0, 1) := by decide +kernel
theorem dX5_goes_104 : decode cX5_goes 104 = .ok (.iaload, 1) := by decide +kernel
theorem dX5_goes_105 : decode cX5_goes 105 = .ok (.iconst (-1), 1) := by decide +kernel
theorem dX5_goes_106 : decode cX5_goes 106 = .ok (.iconst 0, 1) := by decide +kernel
theorem dX5_goes_107 : decode cX5_goes 107 = .ok (.invokevirtual 63, 3) := by decide +kernel
theorem dX5_goes_110 : decode cX5_goes 110 = .ok (.aload_n 0, 1) := by decide +kernel
theorem dX5_goes_111 : decode cX5_goes 111 = .ok (.getfield 7, 3) := by decide +kernel
theorem dX5_goes_114 : decode cX5_goes 114 = .ok (.iconst 0, 1) := by decide +kernel
theorem dX5_goes_115 : decode cX5_goes 115 = .ok (.iaload, 1) := by decide +kernel
theorem dX5_goes_116 : decode cX5_goes 116 = .ok (.bipush 16, 2) := by decide +kernel
theorem dX5_goes_118 : decode cX5_goes 118 = .ok (.if_icmp .le 23, 3) := by decide +kernel
theorem dX5_goes_121 : decode cX5_goes 121 = .ok (.aload_n 0, 1) := by decide +kernel
theorem dX5_goes_122 : decode cX5_goes 122 = .ok (.getfield 7, 3) := by decide +kernel
theorem dX5_goes_125 : decode cX5_goes 125 = .ok (.iconst 0, 1) := by decide +kernel
theorem dX5_goes_126 : decode cX5_goes 126 = .ok (.dup2, 1) := by decide +kernel
theorem dX5_goes_127 : decode cX5_goes 127 = .ok (.iaload, 1) := by decide +kernel
theorem dX5_goes_128 : decode cX5_goes 128 = .ok (.iconst 2, 1) := by decide +kernel
theorem dX5_goes_129 : decode cX5_goes 129 = .ok (.idiv, 1) := by decide +kernel
theorem dX5_goes_130 : decode cX5_goes 130 = .ok (.iastore, 1) := by decide +kernel
theorem dX5_goes_131 : decode cX5_goes 131 = .ok (.aload_n 0, 1) := by decide +kernel
theorem dX5_goes_132 : decode cX5_goes 132 = .ok (.getfield 7, 3) := by decide +kernel
theorem dX5_goes_135 : decode cX5_goes 135 = .ok (.iconst 5, 1) := by decide +kernel
theorem dX5_goes_136 : decode cX5_goes 136 = .ok (.dup2, 1) := by decide +kernel
theorem dX5_goes_137 : decode cX5_goes 137 = .ok (.iaload, 1) := by decide +kernel
theorem dX5_goes_138 : decode cX5_goes 138 = .ok (.iconst 1, 1) := by decide +kernel
theorem dX5_goes_139 : decode cX5_goes 139 = .ok (.iadd, 1) := by decide +kernel
theorem dX5_goes_140 : decode cX5_goes 140 = .ok (.iastore, 1) := by decide +kernel
theorem dX5_goes_141 : decode cX5_goes 141 = .ok (.aload_n 0, 1) := by decide +kernel
theorem dX5_goes_142 : decode cX5_goes 142 = .ok (.iconst 0, 1) := by decide +kernel
theorem dX5_goes_143 : decode cX5_goes 143 = .ok (.aload_n 0, 1) := by decide +kernel
theorem dX5_goes_144 : decode cX5_goes 144 = .ok (.getfield 7, 3) := by decide +kernel
theorem dX5_goes_147 : decode cX5_goes 147 = .ok (.iconst 0, 1) := by decide +kernel
theorem dX5_goes_148 : decode cX5_goes 148 = .ok (.iaload, 1) := by decide +kernel
theorem dX5_goes_149 : decode cX5_goes 149 = .ok (.invokevirtual 67, 3) := by decide +kernel
theorem dX5_goes_152 : decode cX5_goes 152 = .ok (.pop, 1) := by decide +kernel
theorem dX5_goes_153 : decode cX5_goes 153 = .ok (.return_, 1) := by decide +kernel
theorem dX5_putOf_0 : decode cX5_putOf 0 = .ok (.iload_n 1, 1) := by decide +kernel
theorem dX5_putOf_1 : decode cX5_putOf 1 = .ok (.iconst 0, 1) := by decide +kernel
theorem dX5_putOf_2 : decode cX5_putOf 2 = .ok (.sipush 999, 3) := by decide +kernel
theorem dX5_putOf_5 : decode cX5_putOf 5 = .ok (.invokestatic 87, 3) := by decide +kernel
theorem dX5_putOf_8 : decode cX5_putOf 8 = .ok (.ifCond .eq 13, 3) := by decide +kernel
theorem dX5_putOf_11 : decode cX5_putOf 11 = .ok (.iload_n 2, 1) := by decide +kernel
theorem dX5_putOf_12 : decode cX5_putOf 12 = .ok (.iconst 0, 1) := by decide +kernel
theorem dX5_putOf_13 : decode cX5_putOf 13 = .ok (.bipush 99, 2) := by decide +kernel
theorem dX5_putOf_15 : decode cX5_putOf 15 = .ok (.invokestatic 87, 3) := by decide +kernel
theorem dX5_putOf_18 : decode cX5_putOf 18 = .ok (.ifCond .ne 6, 3) := by decide +kernel
theorem dX5_putOf_21 : decode cX5_putOf 21 = .ok (.bipush (-2), 2) := by decide +kernel
theorem dX5_putOf_23 : decode cX5_putOf 23 = .ok (.ireturn, 1) := by decide +kernel
theorem dX5_putOf_24 : decode cX5_putOf 24 = .ok (.aload_n 0, 1) := by decide +kernel
theorem dX5_putOf_25 : decode cX5_putOf 25 = .ok (.iload_n 1, 1) := by decide +kernel
theorem dX5_putOf_26 : decode cX5_putOf 26 = .ok (.invokevirtual 91, 3) := by decide +kernel
theorem dX5_putOf_29 : decode cX5_putOf 29 = .ok (.istore_n 3, 1) := by decide +kernel
theorem dX5_putOf_30 : decode cX5_putOf 30 = .ok (.iload_n 3, 1) := by decide +kernel
theorem dX5_putOf_31 : decode cX5_putOf 31 = .ok (.iconst (-1), 1) := by decide +kernel
theorem dX5_putOf_32 : decode cX5_putOf 32 = .ok (.if_icmp .ne 10, 3) := by decide +kernel
theorem dX5_putOf_35 : decode cX5_putOf 35 = .ok (.aload_n 0, 1) := by decide +kernel
theorem dX5_putOf_36 : decode cX5_putOf 36 = .ok (.iload_n 1, 1) := by decide +kernel
theorem dX5_putOf_37 : decode cX5_putOf 37 = .ok (.iload_n 2, 1) := by decide +kernel
theorem dX5_putOf_38 : decode cX5_putOf 38 = .ok (.invokevirtual 94, 3) := by decide +kernel
theorem dX5_putOf_41 : decode cX5_putOf 41 = .ok (.ireturn, 1) := by decide +kernel
theorem dX5_putOf_42 : decode cX5_putOf 42 = .ok (.aload_n 0, 1) := by decide +kernel
theorem dX5_putOf_43 : decode cX5_putOf 43 = .ok (.getfield 7, 3) := by decide +kernel
theorem dX5_putOf_46 : decode cX5_putOf 46 = .ok (.bipush 95, 2) := by decide +kernel
theorem dX5_putOf_48 : decode cX5_putOf 48 = .ok (.iload_n 3, 1) := by decide +kernel
theorem dX5_putOf_49 : decode cX5_putOf 49 = .ok (.iadd, 1) := by decide +kernel
theorem dX5_putOf_50 : decode cX5_putOf 50 = .ok (.iaload, 1) := by decide +kernel
theorem dX5_putOf_51 : decode cX5_putOf 51 = .ok (.istore 4, 2) := by decide +kernel
theorem dX5_putOf_53 : decode cX5_putOf 53 = .ok (.aload_n 0, 1) := by decide +kernel
theorem dX5_putOf_54 : decode cX5_putOf 54 = .ok (.getfield 7, 3) := by decide +kernel
theorem dX5_putOf_57 : decode cX5_putOf 57 = .ok (.bipush 95, 2) := by decide +kernel
theorem dX5_putOf_59 : decode cX5_putOf 59 = .ok (.iload_n 3, 1) := by decide +kernel
theorem dX5_putOf_60 : decode cX5_putOf 60 = .ok (.iadd, 1) := by decide +kernel
theorem dX5_putOf_61 : decode cX5_putOf 61 = .ok (.iload_n 2, 1) := by decide +kernel
theorem dX5_putOf_62 : decode cX5_putOf 62 = .ok (.iastore, 1) := by decide +kernel
theorem dX5_putOf_63 : decode cX5_putOf 63 = .ok (.iload 4, 2) := by decide +kernel
theorem dX5_putOf_65 : decode cX5_putOf 65 = .ok (.bipush 100, 2) := by decide +kernel
theorem dX5_putOf_67 : decode cX5_putOf 67 = .ok (.iadd, 1) := by decide +kernel
theorem dX5_putOf_68 : decode cX5_putOf 68 = .ok (.ireturn, 1) := by decide +kernel
theorem dX5_takeOf_0 : decode cX5_takeOf 0 = .ok (.iload_n 1, 1) := by decide +kernel
theorem dX5_takeOf_1 : decode cX5_takeOf 1 = .ok (.iconst 0, 1) := by decide +kernel
theorem dX5_takeOf_2 : decode cX5_takeOf 2 = .ok (.sipush 999, 3) := by decide +kernel
theorem dX5_takeOf_5 : decode cX5_takeOf 5 = .ok (.invokestatic 87, 3) := by decide +kernel
theorem dX5_takeOf_8 : decode cX5_takeOf 8 = .ok (.ifCond .ne 6, 3) := by decide +kernel
theorem dX5_takeOf_11 : decode cX5_takeOf 11 = .ok (.bipush (-2), 2) := by decide +kernel
theorem dX5_takeOf_13 : decode cX5_takeOf 13 = .ok (.ireturn, 1) := by decide +kernel
theorem dX5_takeOf_14 : decode cX5_takeOf 14 = .ok (.aload_n 0, 1) := by decide +kernel
theorem dX5_takeOf_15 : decode cX5_takeOf 15 = .ok (.iload_n 1, 1) := by decide +kernel
theorem dX5_takeOf_16 : decode cX5_takeOf 16 = .ok (.invokevirtual 91, 3) := by decide +kernel
theorem dX5_takeOf_19 : decode cX5_takeOf 19 = .ok (.istore_n 2, 1) := by decide +kernel
theorem dX5_takeOf_20 : decode cX5_takeOf 20 = .ok (.iload_n 2, 1) := by decide +kernel
theorem dX5_takeOf_21 : decode cX5_takeOf 21 = .ok (.iconst (-1), 1) := by decide +kernel
theorem dX5_takeOf_22 : decode cX5_takeOf 22 = .ok (.if_icmp .ne 6, 3) := by decide +kernel
theorem dX5_takeOf_25 : decode cX5_takeOf 25 = .ok (.bipush (-3), 2) := by decide +kernel
theorem dX5_takeOf_27 : decode cX5_takeOf 27 = .ok (.ireturn, 1) := by decide +kernel
theorem dX5_takeOf_28 : decode cX5_takeOf 28 = .ok (.aload_n 0, 1) := by decide +kernel
theorem dX5_takeOf_29 : decode cX5_takeOf 29 = .ok (.getfield 7, 3) := by decide +kernel
theorem dX5_takeOf_32 : decode cX5_takeOf 32 = .ok (.bipush 95, 2) := by decide +kernel
theorem dX5_takeOf_34 : decode cX5_takeOf 34 = .ok (.iload_n 2, 1) := by decide +kernel
theorem dX5_takeOf_35 : decode cX5_takeOf 35 = .ok (.iadd, 1) := by decide +kernel
theorem dX5_takeOf_36 : decode cX5_takeOf 36 = .ok (.iaload, 1) := by decide +kernel
theorem dX5_takeOf_37 : decode cX5_takeOf 37 = .ok (.istore_n 3, 1) := by decide +kernel
theorem dX5_takeOf_38 : decode cX5_takeOf 38 = .ok (.aload_n 0, 1) := by decide +kernel
theorem dX5_takeOf_39 : decode cX5_takeOf 39 = .ok (.iload_n 2, 1) := by decide +kernel
theorem dX5_takeOf_40 : decode cX5_takeOf 40 = .ok (.invokevirtual 97, 3) := by decide +kernel
theorem dX5_takeOf_43 : decode cX5_takeOf 43 = .ok (.iload_n 3, 1) := by decide +kernel
theorem dX5_takeOf_44 : decode cX5_takeOf 44 = .ok (.ireturn, 1) := by decide +kernel
theorem dX5_dropOf_0 : decode cX5_dropOf 0 = .ok (.iload_n 1, 1) := by decide +kernel
theorem dX5_dropOf_1 : decode cX5_dropOf 1 = .ok (.iconst 0, 1) := by decide +kernel
theorem dX5_dropOf_2 : decode cX5_dropOf 2 = .ok (.sipush 999, 3) := by decide +kernel
theorem dX5_dropOf_5 : decode cX5_dropOf 5 = .ok (.invokestatic 87, 3) := by decide +kernel
theorem dX5_dropOf_8 : decode cX5_dropOf 8 = .ok (.ifCond .eq 14, 3) := by decide +kernel
theorem dX5_dropOf_11 : decode cX5_dropOf 11 = .ok (.iload_n 2, 1) := by decide +kernel
theorem dX5_dropOf_12 : decode cX5_dropOf 12 = .ok (.iload_n 1, 1) := by decide +kernel
theorem dX5_dropOf_13 : decode cX5_dropOf 13 = .ok (.sipush 999, 3) := by decide +kernel
theorem dX5_dropOf_16 : decode cX5_dropOf 16 = .ok (.invokestatic 87, 3) := by decide +kernel
theorem dX5_dropOf_19 : decode cX5_dropOf 19 = .ok (.ifCond .ne 6, 3) := by decide +kernel
theorem dX5_dropOf_22 : decode cX5_dropOf 22 = .ok (.bipush (-2), 2) := by decide +kernel
theorem dX5_dropOf_24 : decode cX5_dropOf 24 = .ok (.ireturn, 1) := by decide +kernel
theorem dX5_dropOf_25 : decode cX5_dropOf 25 = .ok (.iconst 0, 1) := by decide +kernel
theorem dX5_dropOf_26 : decode cX5_dropOf 26 = .ok (.istore_n 3, 1) := by decide +kernel
theorem dX5_dropOf_27 : decode cX5_dropOf 27 = .ok (.iload_n 1, 1) := by decide +kernel
theorem dX5_dropOf_28 : decode cX5_dropOf 28 = .ok (.istore 4, 2) := by decide +kernel
theorem dX5_dropOf_30 : decode cX5_dropOf 30 = .ok (.iload 4, 2) := by decide +kernel
theorem dX5_dropOf_32 : decode cX5_dropOf 32 = .ok (.iload_n 2, 1) := by decide +kernel
theorem dX5_dropOf_33 : decode cX5_dropOf 33 = .ok (.if_icmp .gt 32, 3) := by decide +kernel
theorem dX5_dropOf_36 : decode cX5_dropOf 36 = .ok (.aload_n 0, 1) := by decide +kernel
theorem dX5_dropOf_37 : decode cX5_dropOf 37 = .ok (.iload 4, 2) := by decide +kernel
theorem dX5_dropOf_39 : decode cX5_dropOf 39 = .ok (.invokevirtual 91, 3) := by decide +kernel
theorem dX5_dropOf_42 : decode cX5_dropOf 42 = .ok (.istore 5, 2) := by decide +kernel
theorem dX5_dropOf_44 : decode cX5_dropOf 44 = .ok (.iload 5, 2) := by decide +kernel
theorem dX5_dropOf_46 : decode cX5_dropOf 46 = .ok (.iconst (-1), 1) := by decide +kernel
theorem dX5_dropOf_47 : decode cX5_dropOf 47 = .ok (.if_icmp .eq 12, 3) := by decide +kernel
theorem dX5_dropOf_50 : decode cX5_dropOf 50 = .ok (.aload_n 0, 1) := by decide +kernel
theorem dX5_dropOf_51 : decode cX5_dropOf 51 = .ok (.iload 5, 2) := by decide +kernel
theorem dX5_dropOf_53 : decode cX5_dropOf 53 = .ok (.invokevirtual 97, 3) := by decide +kernel
theorem dX5_dropOf_56 : decode cX5_dropOf 56 = .ok (.iinc 3 1, 3) := by decide +kernel
theorem dX5_dropOf_59 : decode cX5_dropOf 59 = .ok (.iinc 4 1, 3) := by decide +kernel
theorem dX5_dropOf_62 : decode cX5_dropOf 62 = .ok (.goto (-32), 3) := by decide +kernel
theorem dX5_dropOf_65 : decode cX5_dropOf 65 = .ok (.iload_n 3, 1) := by decide +kernel
theorem dX5_dropOf_66 : decode cX5_dropOf 66 = .ok (.ireturn, 1) := by decide +kernel
theorem dX5_modeOf_0 : decode cX5_modeOf 0 = .ok (.iload_n 1, 1) := by decide +kernel
theorem dX5_modeOf_1 : decode cX5_modeOf 1 = .ok (.iconst 0, 1) := by decide +kernel
theorem dX5_modeOf_2 : decode cX5_modeOf 2 = .ok (.iconst 1, 1) := by decide +kernel
theorem dX5_modeOf_3 : decode cX5_modeOf 3 = .ok (.invokestatic 87, 3) := by decide +kernel
theorem dX5_modeOf_6 : decode cX5_modeOf 6 = .ok (.ifCond .ne 6, 3) := by decide +kernel
theorem dX5_modeOf_9 : decode cX5_modeOf 9 = .ok (.bipush (-2), 2) := by decide +kernel
theorem dX5_modeOf_11 : decode cX5_modeOf 11 = .ok (.ireturn, 1) := by decide +kernel
theorem dX5_modeOf_12 : decode cX5_modeOf 12 = .ok (.aload_n 0, 1) := by decide +kernel
theorem dX5_modeOf_13 : decode cX5_modeOf 13 = .ok (.getfield 7, 3) := by decide +kernel
theorem dX5_modeOf_16 : decode cX5_modeOf 16 = .ok (.iconst 1, 1) := by decide +kernel
theorem dX5_modeOf_17 : decode cX5_modeOf 17 = .ok (.iaload, 1) := by decide +kernel
theorem dX5_modeOf_18 : decode cX5_modeOf 18 = .ok (.istore_n 2, 1) := by decide +kernel
theorem dX5_modeOf_19 : decode cX5_modeOf 19 = .ok (.aload_n 0, 1) := by decide +kernel
theorem dX5_modeOf_20 : decode cX5_modeOf 20 = .ok (.getfield 7, 3) := by decide +kernel
theorem dX5_modeOf_23 : decode cX5_modeOf 23 = .ok (.iconst 1, 1) := by decide +kernel
theorem dX5_modeOf_24 : decode cX5_modeOf 24 = .ok (.iload_n 1, 1) := by decide +kernel
theorem dX5_modeOf_25 : decode cX5_modeOf 25 = .ok (.iastore, 1) := by decide +kernel
theorem dX5_modeOf_26 : decode cX5_modeOf 26 = .ok (.iload_n 2, 1) := by decide +kernel
theorem dX5_modeOf_27 : decode cX5_modeOf 27 = .ok (.ireturn, 1) := by decide +kernel
theorem dX5_laysAside_0 : decode cX5_laysAside 0 = .ok (.iconst 0, 1) := by decide +kernel
theorem dX5_laysAside_1 : decode cX5_laysAside 1 = .ok (.istore_n 1, 1) := by decide +kernel
theorem dX5_laysAside_2 : decode cX5_laysAside 2 = .ok (.iload_n 1, 1) := by decide +kernel
theorem dX5_laysAside_3 : decode cX5_laysAside 3 = .ok (.sipush 159, 3) := by decide +kernel
theorem dX5_laysAside_6 : decode cX5_laysAside 6 = .ok (.if_icmp .ge 21, 3) := by decide +kernel
theorem dX5_laysAside_9 : decode cX5_laysAside 9 = .ok (.aload_n 0, 1) := by decide +kernel
theorem dX5_laysAside_10 : decode cX5_laysAside 10 = .ok (.getfield 16, 3) := by decide +kernel
theorem dX5_laysAside_13 : decode cX5_laysAside 13 = .ok (.iload_n 1, 1) := by decide +kernel
theorem dX5_laysAside_14 : decode cX5_laysAside 14 = .ok (.aload_n 0, 1) := by decide +kernel
theorem dX5_laysAside_15 : decode cX5_laysAside 15 = .ok (.getfield 7, 3) := by decide +kernel
theorem dX5_laysAside_18 : decode cX5_laysAside 18 = .ok (.iload_n 1, 1) := by decide +kernel
theorem dX5_laysAside_19 : decode cX5_laysAside 19 = .ok (.iaload, 1) := by decide +kernel
theorem dX5_laysAside_20 : decode cX5_laysAside 20 = .ok (.iastore, 1) := by decide +kernel
theorem dX5_laysAside_21 : decode cX5_laysAside 21 = .ok (.iinc 1 1, 3) := by decide +kernel
theorem dX5_laysAside_24 : decode cX5_laysAside 24 = .ok (.goto (-22), 3) := by decide +kernel
theorem dX5_laysAside_27 : decode cX5_laysAside 27 = .ok (.return_, 1) := by decide +kernel
theorem dX5_comesBack_0 : decode cX5_comesBack 0 = .ok (.iconst 0, 1) := by decide +kernel
theorem dX5_comesBack_1 : decode cX5_comesBack 1 = .ok (.istore_n 1, 1) := by decide +kernel
theorem dX5_comesBack_2 : decode cX5_comesBack 2 = .ok (.iload_n 1, 1) := by decide +kernel
theorem dX5_comesBack_3 : decode cX5_comesBack 3 = .ok (.sipush 159, 3) := by decide +kernel
theorem dX5_comesBack_6 : decode cX5_comesBack 6 = .ok (.if_icmp .ge 21, 3) := by decide +kernel
theorem dX5_comesBack_9 : decode cX5_comesBack 9 = .ok (.aload_n 0, 1) := by decide +kernel
theorem dX5_comesBack_10 : decode cX5_comesBack 10 = .ok (.getfield 7, 3) := by decide +kernel
theorem dX5_comesBack_13 : decode cX5_comesBack 13 = .ok (.iload_n 1, 1) := by decide +kernel
theorem dX5_comesBack_14 : decode cX5_comesBack 14 = .ok (.aload_n 0, 1) := by decide +kernel
theorem dX5_comesBack_15 : decode cX5_comesBack 15 = .ok (.getfield 16, 3) := by decide +kernel
theorem dX5_comesBack_18 : decode cX5_comesBack 18 = .ok (.iload_n 1, 1) := by decide +kernel
theorem dX5_comesBack_19 : decode cX5_comesBack 19 = .ok (.iaload, 1) := by decide +kernel
theorem dX5_comesBack_20 : decode cX5_comesBack 20 = .ok (.iastore, 1) := by decide +kernel
theorem dX5_comesBack_21 : decode cX5_comesBack 21 = .ok (.iinc 1 1, 3) := by decide +kernel
theorem dX5_comesBack_24 : decode cX5_comesBack 24 = .ok (.goto (-22), 3) := by decide +kernel
theorem dX5_comesBack_27 : decode cX5_comesBack 27 = .ok (.return_, 1) := by decide +kernel
theorem dX5_leaves_0 : decode cX5_leaves 0 = .ok (.aload_n 0, 1) := by decide +kernel
theorem dX5_leaves_1 : decode cX5_leaves 1 = .ok (.getfield 101, 3) := by decide +kernel
theorem dX5_leaves_4 : decode cX5_leaves 4 = .ok (.iconst 5, 1) := by decide +kernel
theorem dX5_leaves_5 : decode cX5_leaves 5 = .ok (.if_icmp .ne 44, 3) := by decide +kernel
theorem dX5_leaves_8 : decode cX5_leaves 8 = .ok (.iconst 0, 1) := by decide +kernel
theorem dX5_leaves_9 : decode cX5_leaves 9 = .ok (.istore_n 1, 1) := by decide +kernel
theorem dX5_leaves_10 : decode cX5_leaves 10 = .ok (.iload_n 1, 1) := by decide +kernel
theorem dX5_leaves_11 : decode cX5_leaves 11 = .ok (.sipush 636, 3) := by decide +kernel
theorem dX5_leaves_14 : decode cX5_leaves 14 = .ok (.if_icmp .ge 25, 3) := by decide +kernel
theorem dX5_leaves_17 : decode cX5_leaves 17 = .ok (.aload_n 0, 1) := by decide +kernel
theorem dX5_leaves_18 : decode cX5_leaves 18 = .ok (.getfield 13, 3) := by decide +kernel
theorem dX5_leaves_21 : decode cX5_leaves 21 = .ok (.iload_n 1, 1) := by decide +kernel
theorem dX5_leaves_22 : decode cX5_leaves 22 = .ok (.aload_n 0, 1) := by decide +kernel
theorem dX5_leaves_23 : decode cX5_leaves 23 = .ok (.getfield 13, 3) := by decide +kernel
theorem dX5_leaves_26 : decode cX5_leaves 26 = .ok (.iload_n 1, 1) := by decide +kernel
theorem dX5_leaves_27 : decode cX5_leaves 27 = .ok (.sipush 159, 3) := by decide +kernel
theorem dX5_leaves_30 : decode cX5_leaves 30 = .ok (.iadd, 1) := by decide +kernel
theorem dX5_leaves_31 : decode cX5_leaves 31 = .ok (.iaload, 1) := by decide +kernel
theorem dX5_leaves_32 : decode cX5_leaves 32 = .ok (.iastore, 1) := by decide +kernel
theorem dX5_leaves_33 : decode cX5_leaves 33 = .ok (.iinc 1 1, 3) := by decide +kernel
theorem dX5_leaves_36 : decode cX5_leaves 36 = .ok (.goto (-26), 3) := by decide +kernel
theorem dX5_leaves_39 : decode cX5_leaves 39 = .ok (.aload_n 0, 1) := by decide +kernel
theorem dX5_leaves_40 : decode cX5_leaves 40 = .ok (.dup, 1) := by decide +kernel
theorem dX5_leaves_41 : decode cX5_leaves 41 = .ok (.getfield 101, 3) := by decide +kernel
theorem dX5_leaves_44 : decode cX5_leaves 44 = .ok (.iconst 1, 1) := by decide +kernel
theorem dX5_leaves_45 : decode cX5_leaves 45 = .ok (.isub, 1) := by decide +kernel
theorem dX5_leaves_46 : decode cX5_leaves 46 = .ok (.putfield 101, 3) := by decide +kernel
theorem dX5_leaves_49 : decode cX5_leaves 49 = .ok (.iconst 0, 1) := by decide +kernel
theorem dX5_leaves_50 : decode cX5_leaves 50 = .ok (.istore_n 1, 1) := by decide +kernel
theorem dX5_leaves_51 : decode cX5_leaves 51 = .ok (.iload_n 1, 1) := by decide +kernel
theorem dX5_leaves_52 : decode cX5_leaves 52 = .ok (.sipush 159, 3) := by decide +kernel
theorem dX5_leaves_55 : decode cX5_leaves 55 = .ok (.if_icmp .ge 30, 3) := by decide +kernel
theorem dX5_leaves_58 : decode cX5_leaves 58 = .ok (.aload_n 0, 1) := by decide +kernel
theorem dX5_leaves_59 : decode cX5_leaves 59 = .ok (.getfield 13, 3) := by decide +kernel
theorem dX5_leaves_62 : decode cX5_leaves 62 = .ok (.sipush 159, 3) := by decide +kernel
theorem dX5_leaves_65 : decode cX5_leaves 65 = .ok (.aload_n 0, 1) := by decide +kernel
theorem dX5_leaves_66 : decode cX5_leaves 66 = .ok (.getfield 101, 3) := by decide +kernel
theorem dX5_leaves_69 : decode cX5_leaves 69 = .ok (.imul, 1) := by decide +kernel
theorem dX5_leaves_70 : decode cX5_leaves 70 = .ok (.iload_n 1, 1) := by decide +kernel
theorem dX5_leaves_71 : decode cX5_leaves 71 = .ok (.iadd, 1) := by decide +kernel
theorem dX5_leaves_72 : decode cX5_leaves 72 = .ok (.aload_n 0, 1) := by decide +kernel
theorem dX5_leaves_73 : decode cX5_leaves 73 = .ok (.getfield 16, 3) := by decide +kernel
theorem dX5_leaves_76 : decode cX5_leaves 76 = .ok (.iload_n 1, 1) := by decide +kernel
theorem dX5_leaves_77 : decode cX5_leaves 77 = .ok (.iaload, 1) := by decide +kernel
theorem dX5_leaves_78 : decode cX5_leaves 78 = .ok (.iastore, 1) := by decide +kernel
theorem dX5_leaves_79 : decode cX5_leaves 79 = .ok (.iinc 1 1, 3) := by decide +kernel
theorem dX5_leaves_82 : decode cX5_leaves 82 = .ok (.goto (-31), 3) := by decide +kernel
theorem dX5_leaves_85 : decode cX5_leaves 85 = .ok (.aload_n 0, 1) := by decide +kernel
theorem dX5_leaves_86 : decode cX5_leaves 86 = .ok (.dup, 1) := by decide +kernel
theorem dX5_leaves_87 : decode cX5_leaves 87 = .ok (.getfield 101, 3) := by decide +kernel
theorem dX5_leaves_90 : decode cX5_leaves 90 = .ok (.iconst 1, 1) := by decide +kernel
theorem dX5_leaves_91 : decode cX5_leaves 91 = .ok (.iadd, 1) := by decide +kernel
theorem dX5_leaves_92 : decode cX5_leaves 92 = .ok (.putfield 101, 3) := by decide +kernel
theorem dX5_leaves_95 : decode cX5_leaves 95 = .ok (.return_, 1) := by decide +kernel
theorem dX5_done_0 : decode cX5_done 0 = .ok (.iload_n 1, 1) := by decide +kernel
theorem dX5_done_1 : decode cX5_done 1 = .ok (.ifCond .ge 10, 3) := by decide +kernel
theorem dX5_done_4 : decode cX5_done 4 = .ok (.aload_n 0, 1) := by decide +kernel
theorem dX5_done_5 : decode cX5_done 5 = .ok (.iload_n 1, 1) := by decide +kernel
theorem dX5_done_6 : decode cX5_done 6 = .ok (.iconst 1, 1) := by decide +kernel
theorem dX5_done_7 : decode cX5_done 7 = .ok (.invokevirtual 41, 3) := by decide +kernel
theorem dX5_done_10 : decode cX5_done 10 = .ok (.ireturn, 1) := by decide +kernel
theorem dX5_done_11 : decode cX5_done 11 = .ok (.aload_n 0, 1) := by decide +kernel
theorem dX5_done_12 : decode cX5_done 12 = .ok (.invokevirtual 104, 3) := by decide +kernel
theorem dX5_done_15 : decode cX5_done 15 = .ok (.iload_n 1, 1) := by decide +kernel
theorem dX5_done_16 : decode cX5_done 16 = .ok (.ireturn, 1) := by decide +kernel
theorem dX5_puts_0 : decode cX5_puts 0 = .ok (.aload_n 0, 1) := by decide +kernel
theorem dX5_puts_1 : decode cX5_puts 1 = .ok (.iconst 0, 1) := by decide +kernel
theorem dX5_puts_2 : decode cX5_puts 2 = .ok (.putfield 37, 3) := by decide +kernel
theorem dX5_puts_5 : decode cX5_puts 5 = .ok (.aload_n 0, 1) := by decide +kernel
theorem dX5_puts_6 : decode cX5_puts 6 = .ok (.invokevirtual 107, 3) := by decide +kernel
theorem dX5_puts_9 : decode cX5_puts 9 = .ok (.aload_n 0, 1) := by decide +kernel
theorem dX5_puts_10 : decode cX5_puts 10 = .ok (.aload_n 0, 1) := by decide +kernel
theorem dX5_puts_11 : decode cX5_puts 11 = .ok (.iload_n 1, 1) := by decide +kernel
theorem dX5_puts_12 : decode cX5_puts 12 = .ok (.iload_n 2, 1) := by decide +kernel
theorem dX5_puts_13 : decode cX5_puts 13 = .ok (.invokevirtual 110, 3) := by decide +kernel
theorem dX5_puts_16 : decode cX5_puts 16 = .ok (.invokevirtual 113, 3) := by decide +kernel
theorem dX5_puts_19 : decode cX5_puts 19 = .ok (.ireturn, 1) := by decide +kernel
theorem dX5_takes_0 : decode cX5_takes 0 = .ok (.aload_n 0, 1) := by decide +kernel
theorem dX5_takes_1 : decode cX5_takes 1 = .ok (.iconst 0, 1) := by decide +kernel
theorem dX5_takes_2 : decode cX5_takes 2 = .ok (.putfield 37, 3) := by decide +kernel
theorem dX5_takes_5 : decode cX5_takes 5 = .ok (.aload_n 0, 1) := by decide +kernel
theorem dX5_takes_6 : decode cX5_takes 6 = .ok (.invokevirtual 107, 3) := by decide +kernel
theorem dX5_takes_9 : decode cX5_takes 9 = .ok (.aload_n 0, 1) := by decide +kernel
theorem dX5_takes_10 : decode cX5_takes 10 = .ok (.aload_n 0, 1) := by decide +kernel
theorem dX5_takes_11 : decode cX5_takes 11 = .ok (.iload_n 1, 1) := by decide +kernel
theorem dX5_takes_12 : decode cX5_takes 12 = .ok (.invokevirtual 116, 3) := by decide +kernel
theorem dX5_takes_15 : decode cX5_takes 15 = .ok (.invokevirtual 113, 3) := by decide +kernel
theorem dX5_takes_18 : decode cX5_takes 18 = .ok (.ireturn, 1) := by decide +kernel
theorem dX5_drops_0 : decode cX5_drops 0 = .ok (.aload_n 0, 1) := by decide +kernel
theorem dX5_drops_1 : decode cX5_drops 1 = .ok (.iconst 0, 1) := by decide +kernel
theorem dX5_drops_2 : decode cX5_drops 2 = .ok (.putfield 37, 3) := by decide +kernel
theorem dX5_drops_5 : decode cX5_drops 5 = .ok (.aload_n 0, 1) := by decide +kernel
theorem dX5_drops_6 : decode cX5_drops 6 = .ok (.invokevirtual 107, 3) := by decide +kernel
theorem dX5_drops_9 : decode cX5_drops 9 = .ok (.aload_n 0, 1) := by decide +kernel
theorem dX5_drops_10 : decode cX5_drops 10 = .ok (.aload_n 0, 1) := by decide +kernel
theorem dX5_drops_11 : decode cX5_drops 11 = .ok (.iload_n 1, 1) := by decide +kernel
theorem dX5_drops_12 : decode cX5_drops 12 = .ok (.iload_n 2, 1) := by decide +kernel
theorem dX5_drops_13 : decode cX5_drops 13 = .ok (.invokevirtual 119, 3) := by decide +kernel
theorem dX5_drops_16 : decode cX5_drops 16 = .ok (.invokevirtual 113, 3) := by decide +kernel
theorem dX5_drops_19 : decode cX5_drops 19 = .ok (.ireturn, 1) := by decide +kernel
theorem dX5_mode_0 : decode cX5_mode 0 = .ok (.aload_n 0, 1) := by decide +kernel
theorem dX5_mode_1 : decode cX5_mode 1 = .ok (.iconst 0, 1) := by decide +kernel
theorem dX5_mode_2 : decode cX5_mode 2 = .ok (.putfield 37, 3) := by decide +kernel
theorem dX5_mode_5 : decode cX5_mode 5 = .ok (.aload_n 0, 1) := by decide +kernel
theorem dX5_mode_6 : decode cX5_mode 6 = .ok (.invokevirtual 107, 3) := by decide +kernel
theorem dX5_mode_9 : decode cX5_mode 9 = .ok (.aload_n 0, 1) := by decide +kernel
theorem dX5_mode_10 : decode cX5_mode 10 = .ok (.aload_n 0, 1) := by decide +kernel
theorem dX5_mode_11 : decode cX5_mode 11 = .ok (.iload_n 1, 1) := by decide +kernel
theorem dX5_mode_12 : decode cX5_mode 12 = .ok (.invokevirtual 122, 3) := by decide +kernel
theorem dX5_mode_15 : decode cX5_mode 15 = .ok (.invokevirtual 113, 3) := by decide +kernel
theorem dX5_mode_18 : decode cX5_mode 18 = .ok (.ireturn, 1) := by decide +kernel
theorem dX5_spaces_0 : decode cX5_spaces 0 = .ok (.aload_n 0, 1) := by decide +kernel
theorem dX5_spaces_1 : decode cX5_spaces 1 = .ok (.iconst 0, 1) := by decide +kernel
theorem dX5_spaces_2 : decode cX5_spaces 2 = .ok (.putfield 37, 3) := by decide +kernel
theorem dX5_spaces_5 : decode cX5_spaces 5 = .ok (.aload_n 0, 1) := by decide +kernel
theorem dX5_spaces_6 : decode cX5_spaces 6 = .ok (.invokevirtual 107, 3) := by decide +kernel
theorem dX5_spaces_9 : decode cX5_spaces 9 = .ok (.aload_n 0, 1) := by decide +kernel
theorem dX5_spaces_10 : decode cX5_spaces 10 = .ok (.aload_n 0, 1) := by decide +kernel
theorem dX5_spaces_11 : decode cX5_spaces 11 = .ok (.iconst 0, 1) := by decide +kernel
theorem dX5_spaces_12 : decode cX5_spaces 12 = .ok (.aload_n 0, 1) := by decide +kernel
theorem dX5_spaces_13 : decode cX5_spaces 13 = .ok (.getfield 7, 3) := by decide +kernel
theorem dX5_spaces_16 : decode cX5_spaces 16 = .ok (.iconst 0, 1) := by decide +kernel
theorem dX5_spaces_17 : decode cX5_spaces 17 = .ok (.iaload, 1) := by decide +kernel
theorem dX5_spaces_18 : decode cX5_spaces 18 = .ok (.iconst (-1), 1) := by decide +kernel
theorem dX5_spaces_19 : decode cX5_spaces 19 = .ok (.iconst 0, 1) := by decide +kernel
theorem dX5_spaces_20 : decode cX5_spaces 20 = .ok (.invokevirtual 80, 3) := by decide +kernel
theorem dX5_spaces_23 : decode cX5_spaces 23 = .ok (.invokevirtual 113, 3) := by decide +kernel
theorem dX5_spaces_26 : decode cX5_spaces 26 = .ok (.ireturn, 1) := by decide +kernel
theorem dX5_back_0 : decode cX5_back 0 = .ok (.aload_n 0, 1) := by decide +kernel
theorem dX5_back_1 : decode cX5_back 1 = .ok (.iconst 0, 1) := by decide +kernel
theorem dX5_back_2 : decode cX5_back 2 = .ok (.putfield 37, 3) := by decide +kernel
theorem dX5_back_5 : decode cX5_back 5 = .ok (.aload_n 0, 1) := by decide +kernel
theorem dX5_back_6 : decode cX5_back 6 = .ok (.getfield 101, 3) := by decide +kernel
theorem dX5_back_9 : decode cX5_back 9 = .ok (.ifCond .ne 11, 3) := by decide +kernel
theorem dX5_back_12 : decode cX5_back 12 = .ok (.aload_n 0, 1) := by decide +kernel
theorem dX5_back_13 : decode cX5_back 13 = .ok (.bipush (-3), 2) := by decide +kernel
theorem dX5_back_15 : decode cX5_back 15 = .ok (.iconst 1, 1) := by decide +kernel
theorem dX5_back_16 : decode cX5_back 16 = .ok (.invokevirtual 41, 3) := by decide +kernel
theorem dX5_back_19 : decode cX5_back 19 = .ok (.ireturn, 1) := by decide +kernel
theorem dX5_back_20 : decode cX5_back 20 = .ok (.aload_n 0, 1) := by decide +kernel
theorem dX5_back_21 : decode cX5_back 21 = .ok (.dup, 1) := by decide +kernel
theorem dX5_back_22 : decode cX5_back 22 = .ok (.getfield 101, 3) := by decide +kernel
theorem dX5_back_25 : decode cX5_back 25 = .ok (.iconst 1, 1) := by decide +kernel
theorem dX5_back_26 : decode cX5_back 26 = .ok (.isub, 1) := by decide +kernel
theorem dX5_back_27 : decode cX5_back 27 = .ok (.putfield 101, 3) := by decide +kernel
theorem dX5_back_30 : decode cX5_back 30 = .ok (.iconst 0, 1) := by decide +kernel
theorem dX5_back_31 : decode cX5_back 31 = .ok (.istore_n 1, 1) := by decide +kernel
theorem dX5_back_32 : decode cX5_back 32 = .ok (.iload_n 1, 1) := by decide +kernel
theorem dX5_back_33 : decode cX5_back 33 = .ok (.sipush 159, 3) := by decide +kernel
theorem dX5_back_36 : decode cX5_back 36 = .ok (.if_icmp .ge 30, 3) := by decide +kernel
theorem dX5_back_39 : decode cX5_back 39 = .ok (.aload_n 0, 1) := by decide +kernel
theorem dX5_back_40 : decode cX5_back 40 = .ok (.getfield 7, 3) := by decide +kernel
theorem dX5_back_43 : decode cX5_back 43 = .ok (.iload_n 1, 1) := by decide +kernel
theorem dX5_back_44 : decode cX5_back 44 = .ok (.aload_n 0, 1) := by decide +kernel
theorem dX5_back_45 : decode cX5_back 45 = .ok (.getfield 13, 3) := by decide +kernel
theorem dX5_back_48 : decode cX5_back 48 = .ok (.sipush 159, 3) := by decide +kernel
theorem dX5_back_51 : decode cX5_back 51 = .ok (.aload_n 0, 1) := by decide +kernel
theorem dX5_back_52 : decode cX5_back 52 = .ok (.getfield 101, 3) := by decide +kernel
theorem dX5_back_55 : decode cX5_back 55 = .ok (.imul, 1) := by decide +kernel
theorem dX5_back_56 : decode cX5_back 56 = .ok (.iload_n 1, 1) := by decide +kernel
theorem dX5_back_57 : decode cX5_back 57 = .ok (.iadd, 1) := by decide +kernel
theorem dX5_back_58 : decode cX5_back 58 = .ok (.iaload, 1) := by decide +kernel
theorem dX5_back_59 : decode cX5_back 59 = .ok (.iastore, 1) := by decide +kernel
theorem dX5_back_60 : decode cX5_back 60 = .ok (.iinc 1 1, 3) := by decide +kernel
theorem dX5_back_63 : decode cX5_back 63 = .ok (.goto (-31), 3) := by decide +kernel
theorem dX5_back_66 : decode cX5_back 66 = .ok (.aload_n 0, 1) := by decide +kernel
theorem dX5_back_67 : decode cX5_back 67 = .ok (.getfield 101, 3) := by decide +kernel
theorem dX5_back_70 : decode cX5_back 70 = .ok (.ireturn, 1) := by decide +kernel
theorem dX5_value_0 : decode cX5_value 0 = .ok (.aload_n 0, 1) := by decide +kernel
theorem dX5_value_1 : decode cX5_value 1 = .ok (.iconst 0, 1) := by decide +kernel
theorem dX5_value_2 : decode cX5_value 2 = .ok (.putfield 37, 3) := by decide +kernel
theorem dX5_value_5 : decode cX5_value 5 = .ok (.iload_n 1, 1) := by decide +kernel
theorem dX5_value_6 : decode cX5_value 6 = .ok (.iconst 0, 1) := by decide +kernel
theorem dX5_value_7 : decode cX5_value 7 = .ok (.sipush 999, 3) := by decide +kernel
theorem dX5_value_10 : decode cX5_value 10 = .ok (.invokestatic 87, 3) := by decide +kernel
theorem dX5_value_13 : decode cX5_value 13 = .ok (.ifCond .ne 8, 3) := by decide +kernel
theorem dX5_value_16 : decode cX5_value 16 = .ok (.aload_n 0, 1) := by decide +kernel
theorem dX5_value_17 : decode cX5_value 17 = .ok (.invokevirtual 125, 3) := by decide +kernel
theorem dX5_value_20 : decode cX5_value 20 = .ok (.ireturn, 1) := by decide +kernel
theorem dX5_value_21 : decode cX5_value 21 = .ok (.aload_n 0, 1) := by decide +kernel
theorem dX5_value_22 : decode cX5_value 22 = .ok (.iload_n 1, 1) := by decide +kernel
theorem dX5_value_23 : decode cX5_value 23 = .ok (.invokevirtual 91, 3) := by decide +kernel
theorem dX5_value_26 : decode cX5_value 26 = .ok (.istore_n 2, 1) := by decide +kernel
theorem dX5_value_27 : decode cX5_value 27 = .ok (.iload_n 2, 1) := by decide +kernel
theorem dX5_value_28 : decode cX5_value 28 = .ok (.iconst (-1), 1) := by decide +kernel
theorem dX5_value_29 : decode cX5_value 29 = .ok (.if_icmp .ne 13, 3) := by decide +kernel
theorem dX5_value_32 : decode cX5_value 32 = .ok (.aload_n 0, 1) := by decide +kernel
theorem dX5_value_33 : decode cX5_value 33 = .ok (.bipush (-3), 2) := by decide +kernel
theorem dX5_value_35 : decode cX5_value 35 = .ok (.iconst 1, 1) := by decide +kernel
theorem dX5_value_36 : decode cX5_value 36 = .ok (.invokevirtual 41, 3) := by decide +kernel
theorem dX5_value_39 : decode cX5_value 39 = .ok (.goto 12, 3) := by decide +kernel
theorem dX5_value_42 : decode cX5_value 42 = .ok (.aload_n 0, 1) := by decide +kernel
theorem dX5_value_43 : decode cX5_value 43 = .ok (.getfield 7, 3) := by decide +kernel
theorem dX5_value_46 : decode cX5_value 46 = .ok (.bipush 95, 2) := by decide +kernel
theorem dX5_value_48 : decode cX5_value 48 = .ok (.iload_n 2, 1) := by decide +kernel
theorem dX5_value_49 : decode cX5_value 49 = .ok (.iadd, 1) := by decide +kernel
theorem dX5_value_50 : decode cX5_value 50 = .ok (.iaload, 1) := by decide +kernel
theorem dX5_value_51 : decode cX5_value 51 = .ok (.ireturn, 1) := by decide +kernel
theorem dX5_cell_0 : decode cX5_cell 0 = .ok (.aload_n 0, 1) := by decide +kernel
theorem dX5_cell_1 : decode cX5_cell 1 = .ok (.iconst 0, 1) := by decide +kernel
theorem dX5_cell_2 : decode cX5_cell 2 = .ok (.putfield 37, 3) := by decide +kernel
theorem dX5_cell_5 : decode cX5_cell 5 = .ok (.iload_n 1, 1) := by decide +kernel
theorem dX5_cell_6 : decode cX5_cell 6 = .ok (.iconst 0, 1) := by decide +kernel
theorem dX5_cell_7 : decode cX5_cell 7 = .ok (.sipush 999, 3) := by decide +kernel
theorem dX5_cell_10 : decode cX5_cell 10 = .ok (.invokestatic 87, 3) := by decide +kernel
theorem dX5_cell_13 : decode cX5_cell 13 = .ok (.ifCond .eq 11, 3) := by decide +kernel
theorem dX5_cell_16 : decode cX5_cell 16 = .ok (.aload_n 0, 1) := by decide +kernel
theorem dX5_cell_17 : decode cX5_cell 17 = .ok (.iload_n 1, 1) := by decide +kernel
theorem dX5_cell_18 : decode cX5_cell 18 = .ok (.invokevirtual 91, 3) := by decide +kernel
theorem dX5_cell_21 : decode cX5_cell 21 = .ok (.goto 7, 3) := by decide +kernel
theorem dX5_cell_24 : decode cX5_cell 24 = .ok (.aload_n 0, 1) := by decide +kernel
theorem dX5_cell_25 : decode cX5_cell 25 = .ok (.invokevirtual 125, 3) := by decide +kernel
theorem dX5_cell_28 : decode cX5_cell 28 = .ok (.ireturn, 1) := by decide +kernel
theorem dX5_at_0 : decode cX5_at 0 = .ok (.aload_n 0, 1) := by decide +kernel
theorem dX5_at_1 : decode cX5_at 1 = .ok (.iconst 0, 1) := by decide +kernel
theorem dX5_at_2 : decode cX5_at 2 = .ok (.putfield 37, 3) := by decide +kernel
theorem dX5_at_5 : decode cX5_at 5 = .ok (.iload_n 1, 1) := by decide +kernel
theorem dX5_at_6 : decode cX5_at 6 = .ok (.iconst 0, 1) := by decide +kernel
theorem dX5_at_7 : decode cX5_at 7 = .ok (.aload_n 0, 1) := by decide +kernel
theorem dX5_at_8 : decode cX5_at 8 = .ok (.getfield 7, 3) := by decide +kernel
theorem dX5_at_11 : decode cX5_at 11 = .ok (.iconst 0, 1) := by decide +kernel
theorem dX5_at_12 : decode cX5_at 12 = .ok (.iaload, 1) := by decide +kernel
theorem dX5_at_13 : decode cX5_at 13 = .ok (.iconst 1, 1) := by decide +kernel
theorem dX5_at_14 : decode cX5_at 14 = .ok (.isub, 1) := by decide +kernel
theorem dX5_at_15 : decode cX5_at 15 = .ok (.invokestatic 87, 3) := by decide +kernel
theorem dX5_at_18 : decode cX5_at 18 = .ok (.ifCond .eq 15, 3) := by decide +kernel
theorem dX5_at_21 : decode cX5_at 21 = .ok (.aload_n 0, 1) := by decide +kernel
theorem dX5_at_22 : decode cX5_at 22 = .ok (.getfield 7, 3) := by decide +kernel
theorem dX5_at_25 : decode cX5_at 25 = .ok (.bipush 31, 2) := by decide +kernel
theorem dX5_at_27 : decode cX5_at 27 = .ok (.iload_n 1, 1) := by decide +kernel
theorem dX5_at_28 : decode cX5_at 28 = .ok (.iadd, 1) := by decide +kernel
theorem dX5_at_29 : decode cX5_at 29 = .ok (.iaload, 1) := by decide +kernel
theorem dX5_at_30 : decode cX5_at 30 = .ok (.goto 7, 3) := by decide +kernel
theorem dX5_at_33 : decode cX5_at 33 = .ok (.aload_n 0, 1) := by decide +kernel
theorem dX5_at_34 : decode cX5_at 34 = .ok (.invokevirtual 125, 3) := by decide +kernel
theorem dX5_at_37 : decode cX5_at 37 = .ok (.ireturn, 1) := by decide +kernel
theorem dX5_below_0 : decode cX5_below 0 = .ok (.iconst 0, 1) := by decide +kernel
theorem dX5_below_1 : decode cX5_below 1 = .ok (.istore_n 2, 1) := by decide +kernel
theorem dX5_below_2 : decode cX5_below 2 = .ok (.iconst 0, 1) := by decide +kernel
theorem dX5_below_3 : decode cX5_below 3 = .ok (.istore_n 3, 1) := by decide +kernel
theorem dX5_below_4 : decode cX5_below 4 = .ok (.iload_n 3, 1) := by decide +kernel
theorem dX5_below_5 : decode cX5_below 5 = .ok (.aload_n 0, 1) := by decide +kernel
theorem dX5_below_6 : decode cX5_below 6 = .ok (.getfield 7, 3) := by decide +kernel
theorem dX5_below_9 : decode cX5_below 9 = .ok (.iconst 0, 1) := by decide +kernel
theorem dX5_below_10 : decode cX5_below 10 = .ok (.iaload, 1) := by decide +kernel
theorem dX5_below_11 : decode cX5_below 11 = .ok (.if_icmp .ge 43, 3) := by decide +kernel
theorem dX5_below_14 : decode cX5_below 14 = .ok (.iload_n 2, 1) := by decide +kernel
theorem dX5_below_15 : decode cX5_below 15 = .ok (.aload_n 0, 1) := by decide +kernel
theorem dX5_below_16 : decode cX5_below 16 = .ok (.getfield 7, 3) := by decide +kernel
theorem dX5_below_19 : decode cX5_below 19 = .ok (.bipush 31, 2) := by decide +kernel
theorem dX5_below_21 : decode cX5_below 21 = .ok (.iload_n 3, 1) := by decide +kernel
theorem dX5_below_22 : decode cX5_below 22 = .ok (.iadd, 1) := by decide +kernel
theorem dX5_below_23 : decode cX5_below 23 = .ok (.iaload, 1) := by decide +kernel
theorem dX5_below_24 : decode cX5_below 24 = .ok (.iconst (-1), 1) := by decide +kernel
theorem dX5_below_25 : decode cX5_below 25 = .ok (.if_icmp .eq 20, 3) := by decide +kernel
theorem dX5_below_28 : decode cX5_below 28 = .ok (.aload_n 0, 1) := by decide +kernel
theorem dX5_below_29 : decode cX5_below 29 = .ok (.getfield 7, 3) := by decide +kernel
theorem dX5_below_32 : decode cX5_below 32 = .ok (.bipush 31, 2) := by decide +kernel
theorem dX5_below_34 : decode cX5_below 34 = .ok (.iload_n 3, 1) := by decide +kernel
theorem dX5_below_35 : decode cX5_below 35 = .ok (.iadd, 1) := by decide +kernel
theorem dX5_below_36 : decode cX5_below 36 = .ok (.iaload, 1) := by decide +kernel
theorem dX5_below_37 : decode cX5_below 37 = .ok (.iload_n 1, 1) := by decide +kernel
theorem dX5_below_38 : decode cX5_below 38 = .ok (.if_icmp .ge 7, 3) := by decide +kernel
theorem dX5_below_41 : decode cX5_below 41 = .ok (.iconst 1, 1) := by decide +kernel
theorem dX5_below_42 : decode cX5_below 42 = .ok (.goto 4, 3) := by decide +kernel
theorem dX5_below_45 : decode cX5_below 45 = .ok (.iconst 0, 1) := by decide +kernel
theorem dX5_below_46 : decode cX5_below 46 = .ok (.iadd, 1) := by decide +kernel
theorem dX5_below_47 : decode cX5_below 47 = .ok (.istore_n 2, 1) := by decide +kernel
theorem dX5_below_48 : decode cX5_below 48 = .ok (.iinc 3 1, 3) := by decide +kernel
theorem dX5_below_51 : decode cX5_below 51 = .ok (.goto (-47), 3) := by decide +kernel
theorem dX5_below_54 : decode cX5_below 54 = .ok (.iload_n 2, 1) := by decide +kernel
theorem dX5_below_55 : decode cX5_below 55 = .ok (.ireturn, 1) := by decide +kernel
theorem dX5_rank_0 : decode cX5_rank 0 = .ok (.aload_n 0, 1) := by decide +kernel
theorem dX5_rank_1 : decode cX5_rank 1 = .ok (.iconst 0, 1) := by decide +kernel
theorem dX5_rank_2 : decode cX5_rank 2 = .ok (.putfield 37, 3) := by decide +kernel
theorem dX5_rank_5 : decode cX5_rank 5 = .ok (.iload_n 1, 1) := by decide +kernel
theorem dX5_rank_6 : decode cX5_rank 6 = .ok (.iconst 0, 1) := by decide +kernel
theorem dX5_rank_7 : decode cX5_rank 7 = .ok (.sipush 1000, 3) := by decide +kernel
theorem dX5_rank_10 : decode cX5_rank 10 = .ok (.invokestatic 87, 3) := by decide +kernel
theorem dX5_rank_13 : decode cX5_rank 13 = .ok (.ifCond .eq 11, 3) := by decide +kernel
theorem dX5_rank_16 : decode cX5_rank 16 = .ok (.aload_n 0, 1) := by decide +kernel
theorem dX5_rank_17 : decode cX5_rank 17 = .ok (.iload_n 1, 1) := by decide +kernel
theorem dX5_rank_18 : decode cX5_rank 18 = .ok (.invokevirtual 128, 3) := by decide +kernel
theorem dX5_rank_21 : decode cX5_rank 21 = .ok (.goto 7, 3) := by decide +kernel
theorem dX5_rank_24 : decode cX5_rank 24 = .ok (.aload_n 0, 1) := by decide +kernel
theorem dX5_rank_25 : decode cX5_rank 25 = .ok (.invokevirtual 125, 3) := by decide +kernel
theorem dX5_rank_28 : decode cX5_rank 28 = .ok (.ireturn, 1) := by decide +kernel
theorem dX5_key_0 : decode cX5_key 0 = .ok (.aload_n 0, 1) := by decide +kernel
theorem dX5_key_1 : decode cX5_key 1 = .ok (.iconst 0, 1) := by decide +kernel
theorem dX5_key_2 : decode cX5_key 2 = .ok (.putfield 37, 3) := by decide +kernel
theorem dX5_key_5 : decode cX5_key 5 = .ok (.iload_n 1, 1) := by decide +kernel
theorem dX5_key_6 : decode cX5_key 6 = .ok (.ifCond .ge 8, 3) := by decide +kernel
theorem dX5_key_9 : decode cX5_key 9 = .ok (.aload_n 0, 1) := by decide +kernel
theorem dX5_key_10 : decode cX5_key 10 = .ok (.invokevirtual 125, 3) := by decide +kernel
theorem dX5_key_13 : decode cX5_key 13 = .ok (.ireturn, 1) := by decide +kernel
theorem dX5_key_14 : decode cX5_key 14 = .ok (.iload_n 1, 1) := by decide +kernel
theorem dX5_key_15 : decode cX5_key 15 = .ok (.istore_n 2, 1) := by decide +kernel
theorem dX5_key_16 : decode cX5_key 16 = .ok (.iconst 0, 1) := by decide +kernel
theorem dX5_key_17 : decode cX5_key 17 = .ok (.istore_n 3, 1) := by decide +kernel
theorem dX5_key_18 : decode cX5_key 18 = .ok (.iload_n 3, 1) := by decide +kernel
theorem dX5_key_19 : decode cX5_key 19 = .ok (.aload_n 0, 1) := by decide +kernel
theorem dX5_key_20 : decode cX5_key 20 = .ok (.getfield 7, 3) := by decide +kernel
theorem dX5_key_23 : decode cX5_key 23 = .ok (.iconst 0, 1) := by decide +kernel
theorem dX5_key_24 : decode cX5_key 24 = .ok (.iaload, 1) := by decide +kernel
theorem dX5_key_25 : decode cX5_key 25 = .ok (.if_icmp .ge 39, 3) := by decide +kernel
theorem dX5_key_28 : decode cX5_key 28 = .ok (.aload_n 0, 1) := by decide +kernel
theorem dX5_key_29 : decode cX5_key 29 = .ok (.getfield 7, 3) := by decide +kernel
theorem dX5_key_32 : decode cX5_key 32 = .ok (.bipush 31, 2) := by decide +kernel
theorem dX5_key_34 : decode cX5_key 34 = .ok (.iload_n 3, 1) := by decide +kernel
theorem dX5_key_35 : decode cX5_key 35 = .ok (.iadd, 1) := by decide +kernel
theorem dX5_key_36 : decode cX5_key 36 = .ok (.iaload, 1) := by decide +kernel
theorem dX5_key_37 : decode cX5_key 37 = .ok (.iconst (-1), 1) := by decide +kernel
theorem dX5_key_38 : decode cX5_key 38 = .ok (.if_icmp .eq 20, 3) := by decide +kernel
theorem dX5_key_41 : decode cX5_key 41 = .ok (.iload_n 2, 1) := by decide +kernel
theorem dX5_key_42 : decode cX5_key 42 = .ok (.ifCond .ne 13, 3) := by decide +kernel
theorem dX5_key_45 : decode cX5_key 45 = .ok (.aload_n 0, 1) := by decide +kernel
theorem dX5_key_46 : decode cX5_key 46 = .ok (.getfield 7, 3) := by decide +kernel
theorem dX5_key_49 : decode cX5_key 49 = .ok (.bipush 31, 2) := by decide +kernel
theorem dX5_key_51 : decode cX5_key 51 = .ok (.iload_n 3, 1) := by decide +kernel
theorem dX5_key_52 : decode cX5_key 52 = .ok (.iadd, 1) := by decide +kernel
theorem dX5_key_53 : decode cX5_key 53 = .ok (.iaload, 1) := by decide +kernel
theorem dX5_key_54 : decode cX5_key 54 = .ok (.ireturn, 1) := by decide +kernel
theorem dX5_key_55 : decode cX5_key 55 = .ok (.iinc 2 (-1), 3) := by decide +kernel
theorem dX5_key_58 : decode cX5_key 58 = .ok (.iinc 3 1, 3) := by decide +kernel
theorem dX5_key_61 : decode cX5_key 61 = .ok (.goto (-43), 3) := by decide +kernel
theorem dX5_key_64 : decode cX5_key 64 = .ok (.iconst (-1), 1) := by decide +kernel
theorem dX5_key_65 : decode cX5_key 65 = .ok (.ireturn, 1) := by decide +kernel
theorem dX5_scan_0 : decode cX5_scan 0 = .ok (.aload_n 0, 1) := by decide +kernel
theorem dX5_scan_1 : decode cX5_scan 1 = .ok (.iconst 0, 1) := by decide +kernel
theorem dX5_scan_2 : decode cX5_scan 2 = .ok (.putfield 37, 3) := by decide +kernel
theorem dX5_scan_5 : decode cX5_scan 5 = .ok (.iload_n 1, 1) := by decide +kernel
theorem dX5_scan_6 : decode cX5_scan 6 = .ok (.iconst 0, 1) := by decide +kernel
theorem dX5_scan_7 : decode cX5_scan 7 = .ok (.sipush 999, 3) := by decide +kernel
theorem dX5_scan_10 : decode cX5_scan 10 = .ok (.invokestatic 87, 3) := by decide +kernel
theorem dX5_scan_13 : decode cX5_scan 13 = .ok (.ifCond .eq 23, 3) := by decide +kernel
theorem dX5_scan_16 : decode cX5_scan 16 = .ok (.iload_n 2, 1) := by decide +kernel
theorem dX5_scan_17 : decode cX5_scan 17 = .ok (.iload_n 1, 1) := by decide +kernel
theorem dX5_scan_18 : decode cX5_scan 18 = .ok (.sipush 999, 3) := by decide +kernel
theorem dX5_scan_21 : decode cX5_scan 21 = .ok (.invokestatic 87, 3) := by decide +kernel
theorem dX5_scan_24 : decode cX5_scan 24 = .ok (.ifCond .eq 12, 3) := by decide +kernel
theorem dX5_scan_27 : decode cX5_scan 27 = .ok (.iload_n 3, 1) := by decide +kernel
theorem dX5_scan_28 : decode cX5_scan 28 = .ok (.iconst 0, 1) := by decide +kernel
theorem dX5_scan_29 : decode cX5_scan 29 = .ok (.iconst 2, 1) := by decide +kernel
theorem dX5_scan_30 : decode cX5_scan 30 = .ok (.invokestatic 87, 3) := by decide +kernel
theorem dX5_scan_33 : decode cX5_scan 33 = .ok (.ifCond .ne 8, 3) := by decide +kernel
theorem dX5_scan_36 : decode cX5_scan 36 = .ok (.aload_n 0, 1) := by decide +kernel
theorem dX5_scan_37 : decode cX5_scan 37 = .ok (.invokevirtual 125, 3) := by decide +kernel
theorem dX5_scan_40 : decode cX5_scan 40 = .ok (.ireturn, 1) := by decide +kernel
theorem dX5_scan_41 : decode cX5_scan 41 = .ok (.iconst 0, 1) := by decide +kernel
theorem dX5_scan_42 : decode cX5_scan 42 = .ok (.istore 4, 2) := by decide +kernel
theorem dX5_scan_44 : decode cX5_scan 44 = .ok (.iconst 0, 1) := by decide +kernel
theorem dX5_scan_45 : decode cX5_scan 45 = .ok (.istore 5, 2) := by decide +kernel
theorem dX5_scan_47 : decode cX5_scan 47 = .ok (.iconst (-1), 1) := by decide +kernel
theorem dX5_scan_48 : decode cX5_scan 48 = .ok (.istore 6, 2) := by decide +kernel
theorem dX5_scan_50 : decode cX5_scan 50 = .ok (.iconst (-1), 1) := by decide +kernel
theorem dX5_scan_51 : decode cX5_scan 51 = .ok (.istore 7, 2) := by decide +kernel
theorem dX5_scan_53 : decode cX5_scan 53 = .ok (.iconst 0, 1) := by decide +kernel
theorem dX5_scan_54 : decode cX5_scan 54 = .ok (.istore 8, 2) := by decide +kernel
theorem dX5_scan_56 : decode cX5_scan 56 = .ok (.iload 8, 2) := by decide +kernel
theorem dX5_scan_58 : decode cX5_scan 58 = .ok (.aload_n 0, 1) := by decide +kernel
theorem dX5_scan_59 : decode cX5_scan 59 = .ok (.getfield 7, 3) := by decide +kernel
theorem dX5_scan_62 : decode cX5_scan 62 = .ok (.iconst 0, 1) := by decide +kernel
theorem dX5_scan_63 : decode cX5_scan 63 = .ok (.iaload, 1) := by decide +kernel
theorem dX5_scan_64 : decode cX5_scan 64 = .ok (.if_icmp .ge 77, 3) := by decide +kernel
theorem dX5_scan_67 : decode cX5_scan 67 = .ok (.aload_n 0, 1) := by decide +kernel
theorem dX5_scan_68 : decode cX5_scan 68 = .ok (.getfield 7, 3) := by decide +kernel
theorem dX5_scan_71 : decode cX5_scan 71 = .ok (.bipush 31, 2) := by decide +kernel
theorem dX5_scan_73 : decode cX5_scan 73 = .ok (.iload 8, 2) := by decide +kernel
theorem dX5_scan_75 : decode cX5_scan 75 = .ok (.iadd, 1) := by decide +kernel
theorem dX5_scan_76 : decode cX5_scan 76 = .ok (.iaload, 1) := by decide +kernel
theorem dX5_scan_77 : decode cX5_scan 77 = .ok (.iconst (-1), 1) := by decide +kernel
theorem dX5_scan_78 : decode cX5_scan 78 = .ok (.if_icmp .eq 57, 3) := by decide +kernel
theorem dX5_scan_81 : decode cX5_scan 81 = .ok (.aload_n 0, 1) := by decide +kernel
theorem dX5_scan_82 : decode cX5_scan 82 = .ok (.getfield 7, 3) := by decide +kernel
theorem dX5_scan_85 : decode cX5_scan 85 = .ok (.bipush 31, 2) := by decide +kernel
theorem dX5_scan_87 : decode cX5_scan 87 = .ok (.iload 8, 2) := by decide +kernel
theorem dX5_scan_89 : decode cX5_scan 89 = .ok (.iadd, 1) := by decide +kernel
theorem dX5_scan_90 : decode cX5_scan 90 = .ok (.iaload, 1) := by decide +kernel
theorem dX5_scan_91 : decode cX5_scan 91 = .ok (.iload_n 1, 1) := by decide +kernel
theorem dX5_scan_92 : decode cX5_scan 92 = .ok (.iload_n 2, 1) := by decide +kernel
theorem dX5_scan_93 : decode cX5_scan 93 = .ok (.invokestatic 87, 3) := by decide +kernel
theorem dX5_scan_96 : decode cX5_scan 96 = .ok (.ifCond .eq 39, 3) := by decide +kernel
theorem dX5_scan_99 : decode cX5_scan 99 = .ok (.iload 4, 2) := by decide +kernel
theorem dX5_scan_101 : decode cX5_scan 101 = .ok (.ifCond .ne 8, 3) := by decide +kernel
theorem dX5_scan_104 : decode cX5_scan 104 = .ok (.iload 8, 2) := by decide +kernel
theorem dX5_scan_106 : decode cX5_scan 106 = .ok (.goto 5, 3) := by decide +kernel
theorem dX5_scan_109 : decode cX5_scan 109 = .ok (.iload 6, 2) := by decide +kernel
theorem dX5_scan_111 : decode cX5_scan 111 = .ok (.istore 6, 2) := by decide +kernel
theorem dX5_scan_113 : decode cX5_scan 113 = .ok (.iload 8, 2) := by decide +kernel
theorem dX5_scan_115 : decode cX5_scan 115 = .ok (.istore 7, 2) := by decide +kernel
theorem dX5_scan_117 : decode cX5_scan 117 = .ok (.iload 5, 2) := by decide +kernel
theorem dX5_scan_119 : decode cX5_scan 119 = .ok (.aload_n 0, 1) := by decide +kernel
theorem dX5_scan_120 : decode cX5_scan 120 = .ok (.getfield 7, 3) := by decide +kernel
theorem dX5_scan_123 : decode cX5_scan 123 = .ok (.bipush 95, 2) := by decide +kernel
theorem dX5_scan_125 : decode cX5_scan 125 = .ok (.iload 8, 2) := by decide +kernel
theorem dX5_scan_127 : decode cX5_scan 127 = .ok (.iadd, 1) := by decide +kernel
theorem dX5_scan_128 : decode cX5_scan 128 = .ok (.iaload, 1) := by decide +kernel
theorem dX5_scan_129 : decode cX5_scan 129 = .ok (.iadd, 1) := by decide +kernel
theorem dX5_scan_130 : decode cX5_scan 130 = .ok (.istore 5, 2) := by decide +kernel
theorem dX5_scan_132 : decode cX5_scan 132 = .ok (.iinc 4 1, 3) := by decide +kernel
theorem dX5_scan_135 : decode cX5_scan 135 = .ok (.iinc 8 1, 3) := by decide +kernel
theorem dX5_scan_138 : decode cX5_scan 138 = .ok (.goto (-82), 3) := by decide +kernel
theorem dX5_scan_141 : decode cX5_scan 141 = .ok (.iload_n 3, 1) := by decide +kernel
theorem dX5_scan_142 : decode cX5_scan 142 = .ok (.ifCond .ne 8, 3) := by decide +kernel
theorem dX5_scan_145 : decode cX5_scan 145 = .ok (.iload 4, 2) := by decide +kernel
theorem dX5_scan_147 : decode cX5_scan 147 = .ok (.goto 29, 3) := by decide +kernel
theorem dX5_scan_150 : decode cX5_scan 150 = .ok (.iload_n 3, 1) := by decide +kernel
theorem dX5_scan_151 : decode cX5_scan 151 = .ok (.iconst 1, 1) := by decide +kernel
theorem dX5_scan_152 : decode cX5_scan 152 = .ok (.if_icmp .ne 8, 3) := by decide +kernel
theorem dX5_scan_155 : decode cX5_scan 155 = .ok (.iload 5, 2) := by decide +kernel
theorem dX5_scan_157 : decode cX5_scan 157 = .ok (.goto 19, 3) := by decide +kernel
theorem dX5_scan_160 : decode cX5_scan 160 = .ok (.iload 4, 2) := by decide +kernel
theorem dX5_scan_162 : decode cX5_scan 162 = .ok (.ifCond .ne 7, 3) := by decide +kernel
theorem dX5_scan_165 : decode cX5_scan 165 = .ok (.iconst 0, 1) := by decide +kernel
theorem dX5_scan_166 : decode cX5_scan 166 = .ok (.goto 10, 3) := by decide +kernel
theorem dX5_scan_169 : decode cX5_scan 169 = .ok (.iload 7, 2) := by decide +kernel
theorem dX5_scan_171 : decode cX5_scan 171 = .ok (.iload 6, 2) := by decide +kernel
theorem dX5_scan_173 : decode cX5_scan 173 = .ok (.isub, 1) := by decide +kernel
theorem dX5_scan_174 : decode cX5_scan 174 = .ok (.iconst 1, 1) := by decide +kernel
theorem dX5_scan_175 : decode cX5_scan 175 = .ok (.iadd, 1) := by decide +kernel
theorem dX5_scan_176 : decode cX5_scan 176 = .ok (.ireturn, 1) := by decide +kernel
theorem dX5_leastOf_0 : decode cX5_leastOf 0 = .ok (.iconst (-1), 1) := by decide +kernel
theorem dX5_leastOf_1 : decode cX5_leastOf 1 = .ok (.istore_n 2, 1) := by decide +kernel
theorem dX5_leastOf_2 : decode cX5_leastOf 2 = .ok (.iconst 4, 1) := by decide +kernel
theorem dX5_leastOf_3 : decode cX5_leastOf 3 = .ok (.iload_n 1, 1) := by decide +kernel
theorem dX5_leastOf_4 : decode cX5_leastOf 4 = .ok (.imul, 1) := by decide +kernel
theorem dX5_leastOf_5 : decode cX5_leastOf 5 = .ok (.iconst 3, 1) := by decide +kernel
theorem dX5_leastOf_6 : decode cX5_leastOf 6 = .ok (.iadd, 1) := by decide +kernel
theorem dX5_leastOf_7 : decode cX5_leastOf 7 = .ok (.istore_n 3, 1) := by decide +kernel
theorem dX5_leastOf_8 : decode cX5_leastOf 8 = .ok (.iload_n 3, 1) := by decide +kernel
theorem dX5_leastOf_9 : decode cX5_leastOf 9 = .ok (.iconst 4, 1) := by decide +kernel
theorem dX5_leastOf_10 : decode cX5_leastOf 10 = .ok (.iload_n 1, 1) := by decide +kernel
theorem dX5_leastOf_11 : decode cX5_leastOf 11 = .ok (.imul, 1) := by decide +kernel
theorem dX5_leastOf_12 : decode cX5_leastOf 12 = .ok (.if_icmp .lt 36, 3) := by decide +kernel
theorem dX5_leastOf_15 : decode cX5_leastOf 15 = .ok (.aload_n 0, 1) := by decide +kernel
theorem dX5_leastOf_16 : decode cX5_leastOf 16 = .ok (.getfield 7, 3) := by decide +kernel
theorem dX5_leastOf_19 : decode cX5_leastOf 19 = .ok (.bipush 31, 2) := by decide +kernel
theorem dX5_leastOf_21 : decode cX5_leastOf 21 = .ok (.iload_n 3, 1) := by decide +kernel
theorem dX5_leastOf_22 : decode cX5_leastOf 22 = .ok (.iadd, 1) := by decide +kernel
theorem dX5_leastOf_23 : decode cX5_leastOf 23 = .ok (.iaload, 1) := by decide +kernel
theorem dX5_leastOf_24 : decode cX5_leastOf 24 = .ok (.iconst (-1), 1) := by decide +kernel
theorem dX5_leastOf_25 : decode cX5_leastOf 25 = .ok (.if_icmp .ne 7, 3) := by decide +kernel
theorem dX5_leastOf_28 : decode cX5_leastOf 28 = .ok (.iload_n 2, 1) := by decide +kernel
theorem dX5_leastOf_29 : decode cX5_leastOf 29 = .ok (.goto 12, 3) := by decide +kernel
theorem dX5_leastOf_32 : decode cX5_leastOf 32 = .ok (.aload_n 0, 1) := by decide +kernel
theorem dX5_leastOf_33 : decode cX5_leastOf 33 = .ok (.getfield 7, 3) := by decide +kernel
theorem dX5_leastOf_36 : decode cX5_leastOf 36 = .ok (.bipush 31, 2) := by decide +kernel
theorem dX5_leastOf_38 : decode cX5_leastOf 38 = .ok (.iload_n 3, 1) := by decide +kernel
theorem dX5_leastOf_39 : decode cX5_leastOf 39 = .ok (.iadd, 1) := by decide +kernel
theorem dX5_leastOf_40 : decode cX5_leastOf 40 = .ok (.iaload, 1) := by decide +kernel
theorem dX5_leastOf_41 : decode cX5_leastOf 41 = .ok (.istore_n 2, 1) := by decide +kernel
theorem dX5_leastOf_42 : decode cX5_leastOf 42 = .ok (.iinc 3 (-1), 3) := by decide +kernel
theorem dX5_leastOf_45 : decode cX5_leastOf 45 = .ok (.goto (-37), 3) := by decide +kernel
theorem dX5_leastOf_48 : decode cX5_leastOf 48 = .ok (.iload_n 2, 1) := by decide +kernel
theorem dX5_leastOf_49 : decode cX5_leastOf 49 = .ok (.ireturn, 1) := by decide +kernel
theorem dX5_index_0 : decode cX5_index 0 = .ok (.aload_n 0, 1) := by decide +kernel
theorem dX5_index_1 : decode cX5_index 1 = .ok (.iconst 0, 1) := by decide +kernel
theorem dX5_index_2 : decode cX5_index 2 = .ok (.putfield 37, 3) := by decide +kernel
theorem dX5_index_5 : decode cX5_index 5 = .ok (.iload_n 1, 1) := by decide +kernel
theorem dX5_index_6 : decode cX5_index 6 = .ok (.iconst 0, 1) := by decide +kernel
theorem dX5_index_7 : decode cX5_index 7 = .ok (.aload_n 0, 1) := by decide +kernel
theorem dX5_index_8 : decode cX5_index 8 = .ok (.getfield 7, 3) := by decide +kernel
theorem dX5_index_11 : decode cX5_index 11 = .ok (.iconst 0, 1) := by decide +kernel
theorem dX5_index_12 : decode cX5_index 12 = .ok (.iaload, 1) := by decide +kernel
theorem dX5_index_13 : decode cX5_index 13 = .ok (.iconst 4, 1) := by decide +kernel
theorem dX5_index_14 : decode cX5_index 14 = .ok (.idiv, 1) := by decide +kernel
theorem dX5_index_15 : decode cX5_index 15 = .ok (.iconst 1, 1) := by decide +kernel
theorem dX5_index_16 : decode cX5_index 16 = .ok (.isub, 1) := by decide +kernel
theorem dX5_index_17 : decode cX5_index 17 = .ok (.invokestatic 87, 3) := by decide +kernel
theorem dX5_index_20 : decode cX5_index 20 = .ok (.ifCond .eq 11, 3) := by decide +kernel
theorem dX5_index_23 : decode cX5_index 23 = .ok (.aload_n 0, 1) := by decide +kernel
theorem dX5_index_24 : decode cX5_index 24 = .ok (.iload_n 1, 1) := by decide +kernel
theorem dX5_index_25 : decode cX5_index 25 = .ok (.invokevirtual 131, 3) := by decide +kernel
theorem dX5_index_28 : decode cX5_index 28 = .ok (.goto 7, 3) := by decide +kernel
theorem dX5_index_31 : decode cX5_index 31 = .ok (.aload_n 0, 1) := by decide +kernel
theorem dX5_index_32 : decode cX5_index 32 = .ok (.invokevirtual 125, 3) := by decide +kernel
theorem dX5_index_35 : decode cX5_index 35 = .ok (.ireturn, 1) := by decide +kernel
theorem dX5_window_0 : decode cX5_window 0 = .ok (.aload_n 0, 1) := by decide +kernel
theorem dX5_window_1 : decode cX5_window 1 = .ok (.iconst 0, 1) := by decide +kernel
theorem dX5_window_2 : decode cX5_window 2 = .ok (.putfield 37, 3) := by decide +kernel
theorem dX5_window_5 : decode cX5_window 5 = .ok (.iload_n 1, 1) := by decide +kernel
theorem dX5_window_6 : decode cX5_window 6 = .ok (.iconst 0, 1) := by decide +kernel
theorem dX5_window_7 : decode cX5_window 7 = .ok (.aload_n 0, 1) := by decide +kernel
theorem dX5_window_8 : decode cX5_window 8 = .ok (.invokevirtual 49, 3) := by decide +kernel
theorem dX5_window_11 : decode cX5_window 11 = .ok (.invokestatic 87, 3) := by decide +kernel
theorem dX5_window_14 : decode cX5_window 14 = .ok (.ifCond .eq 33, 3) := by decide +kernel
theorem dX5_window_17 : decode cX5_window 17 = .ok (.iload_n 2, 1) := by decide +kernel
theorem dX5_window_18 : decode cX5_window 18 = .ok (.iconst 0, 1) := by decide +kernel
theorem dX5_window_19 : decode cX5_window 19 = .ok (.aload_n 0, 1) := by decide +kernel
theorem dX5_window_20 : decode cX5_window 20 = .ok (.getfield 7, 3) := by decide +kernel
theorem dX5_window_23 : decode cX5_window 23 = .ok (.iconst 0, 1) := by decide +kernel
theorem dX5_window_24 : decode cX5_window 24 = .ok (.iaload, 1) := by decide +kernel
theorem dX5_window_25 : decode cX5_window 25 = .ok (.iload_n 1, 1) := by decide +kernel
theorem dX5_window_26 : decode cX5_window 26 = .ok (.invokestatic 45, 3) := by decide +kernel
theorem dX5_window_29 : decode cX5_window 29 = .ok (.idiv, 1) := by decide +kernel
theorem dX5_window_30 : decode cX5_window 30 = .ok (.iconst 1, 1) := by decide +kernel
theorem dX5_window_31 : decode cX5_window 31 = .ok (.isub, 1) := by decide +kernel
theorem dX5_window_32 : decode cX5_window 32 = .ok (.invokestatic 87, 3) := by decide +kernel
theorem dX5_window_35 : decode cX5_window 35 = .ok (.ifCond .eq 12, 3) := by decide +kernel
theorem dX5_window_38 : decode cX5_window 38 = .ok (.iload_n 3, 1) := by decide +kernel
theorem dX5_window_39 : decode cX5_window 39 = .ok (.iconst 0, 1) := by decide +kernel
theorem dX5_window_40 : decode cX5_window 40 = .ok (.iconst 2, 1) := by decide +kernel
theorem dX5_window_41 : decode cX5_window 41 = .ok (.invokestatic 87, 3) := by decide +kernel
theorem dX5_window_44 : decode cX5_window 44 = .ok (.ifCond .ne 8, 3) := by decide +kernel
theorem dX5_window_47 : decode cX5_window 47 = .ok (.aload_n 0, 1) := by decide +kernel
theorem dX5_window_48 : decode cX5_window 48 = .ok (.invokevirtual 125, 3) := by decide +kernel
theorem dX5_window_51 : decode cX5_window 51 = .ok (.ireturn, 1) := by decide +kernel
theorem dX5_window_52 : decode cX5_window 52 = .ok (.iload_n 3, 1) := by decide +kernel
theorem dX5_window_53 : decode cX5_window 53 = .ok (.ifCond .ne 20, 3) := by decide +kernel
theorem dX5_window_56 : decode cX5_window 56 = .ok (.aload_n 0, 1) := by decide +kernel
theorem dX5_window_57 : decode cX5_window 57 = .ok (.iload_n 2, 1) := by decide +kernel
theorem dX5_window_58 : decode cX5_window 58 = .ok (.iload_n 1, 1) := by decide +kernel
theorem dX5_window_59 : decode cX5_window 59 = .ok (.invokestatic 45, 3) := by decide +kernel
theorem dX5_window_62 : decode cX5_window 62 = .ok (.imul, 1) := by decide +kernel
theorem dX5_window_63 : decode cX5_window 63 = .ok (.iload_n 1, 1) := by decide +kernel
theorem dX5_window_64 : decode cX5_window 64 = .ok (.invokestatic 45, 3) := by decide +kernel
theorem dX5_window_67 : decode cX5_window 67 = .ok (.invokevirtual 74, 3) := by decide +kernel
theorem dX5_window_70 : decode cX5_window 70 = .ok (.goto 21, 3) := by decide +kernel
theorem dX5_window_73 : decode cX5_window 73 = .ok (.iload_n 3, 1) := by decide +kernel
theorem dX5_window_74 : decode cX5_window 74 = .ok (.iconst 1, 1) := by decide +kernel
theorem dX5_window_75 : decode cX5_window 75 = .ok (.if_icmp .ne 11, 3) := by decide +kernel
theorem dX5_window_78 : decode cX5_window 78 = .ok (.aload_n 0, 1) := by decide +kernel
theorem dX5_window_79 : decode cX5_window 79 = .ok (.iload_n 1, 1) := by decide +kernel
theorem dX5_window_80 : decode cX5_window 80 = .ok (.invokevirtual 77, 3) := by decide +kernel
theorem dX5_window_83 : decode cX5_window 83 = .ok (.goto 8, 3) := by decide +kernel
theorem dX5_window_86 : decode cX5_window 86 = .ok (.aload_n 0, 1) := by decide +kernel
theorem dX5_window_87 : decode cX5_window 87 = .ok (.iload_n 1, 1) := by decide +kernel
theorem dX5_window_88 : decode cX5_window 88 = .ok (.invokevirtual 84, 3) := by decide +kernel
theorem dX5_window_91 : decode cX5_window 91 = .ok (.ireturn, 1) := by decide +kernel
theorem dX5_countOf_0 : decode cX5_countOf 0 = .ok (.iload_n 1, 1) := by decide +kernel
theorem dX5_countOf_1 : decode cX5_countOf 1 = .ok (.ifCond .ne 12, 3) := by decide +kernel
theorem dX5_countOf_4 : decode cX5_countOf 4 = .ok (.aload_n 0, 1) := by decide +kernel
theorem dX5_countOf_5 : decode cX5_countOf 5 = .ok (.getfield 7, 3) := by decide +kernel
theorem dX5_countOf_8 : decode cX5_countOf 8 = .ok (.iconst 0, 1) := by decide +kernel
theorem dX5_countOf_9 : decode cX5_countOf 9 = .ok (.iaload, 1) := by decide +kernel
theorem dX5_countOf_10 : decode cX5_countOf 10 = .ok (.goto 30, 3) := by decide +kernel
theorem dX5_countOf_13 : decode cX5_countOf 13 = .ok (.iload_n 1, 1) := by decide +kernel
theorem dX5_countOf_14 : decode cX5_countOf 14 = .ok (.iconst 1, 1) := by decide +kernel
theorem dX5_countOf_15 : decode cX5_countOf 15 = .ok (.if_icmp .ne 17, 3) := by decide +kernel
theorem dX5_countOf_18 : decode cX5_countOf 18 = .ok (.aload_n 0, 1) := by decide +kernel
theorem dX5_countOf_19 : decode cX5_countOf 19 = .ok (.iconst 0, 1) := by decide +kernel
theorem dX5_countOf_20 : decode cX5_countOf 20 = .ok (.aload_n 0, 1) := by decide +kernel
theorem dX5_countOf_21 : decode cX5_countOf 21 = .ok (.getfield 7, 3) := by decide +kernel
theorem dX5_countOf_24 : decode cX5_countOf 24 = .ok (.iconst 0, 1) := by decide +kernel
theorem dX5_countOf_25 : decode cX5_countOf 25 = .ok (.iaload, 1) := by decide +kernel
theorem dX5_countOf_26 : decode cX5_countOf 26 = .ok (.invokevirtual 74, 3) := by decide +kernel
theorem dX5_countOf_29 : decode cX5_countOf 29 = .ok (.goto 11, 3) := by decide +kernel
theorem dX5_countOf_32 : decode cX5_countOf 32 = .ok (.aload_n 0, 1) := by decide +kernel
theorem dX5_countOf_33 : decode cX5_countOf 33 = .ok (.getfield 7, 3) := by decide +kernel
theorem dX5_countOf_36 : decode cX5_countOf 36 = .ok (.iload_n 1, 1) := by decide +kernel
theorem dX5_countOf_37 : decode cX5_countOf 37 = .ok (.iconst 1, 1) := by decide +kernel
theorem dX5_countOf_38 : decode cX5_countOf 38 = .ok (.isub, 1) := by decide +kernel
theorem dX5_countOf_39 : decode cX5_countOf 39 = .ok (.iaload, 1) := by decide +kernel
theorem dX5_countOf_40 : decode cX5_countOf 40 = .ok (.ireturn, 1) := by decide +kernel
theorem dX5_count_0 : decode cX5_count 0 = .ok (.aload_n 0, 1) := by decide +kernel
theorem dX5_count_1 : decode cX5_count 1 = .ok (.iconst 0, 1) := by decide +kernel
theorem dX5_count_2 : decode cX5_count 2 = .ok (.putfield 37, 3) := by decide +kernel
theorem dX5_count_5 : decode cX5_count 5 = .ok (.iload_n 1, 1) := by decide +kernel
theorem dX5_count_6 : decode cX5_count 6 = .ok (.iconst 0, 1) := by decide +kernel
theorem dX5_count_7 : decode cX5_count 7 = .ok (.bipush 6, 2) := by decide +kernel
theorem dX5_count_9 : decode cX5_count 9 = .ok (.invokestatic 87, 3) := by decide +kernel
theorem dX5_count_12 : decode cX5_count 12 = .ok (.ifCond .eq 11, 3) := by decide +kernel
theorem dX5_count_15 : decode cX5_count 15 = .ok (.aload_n 0, 1) := by decide +kernel
theorem dX5_count_16 : decode cX5_count 16 = .ok (.iload_n 1, 1) := by decide +kernel
theorem dX5_count_17 : decode cX5_count 17 = .ok (.invokevirtual 134, 3) := by decide +kernel
theorem dX5_count_20 : decode cX5_count 20 = .ok (.goto 7, 3) := by decide +kernel
theorem dX5_count_23 : decode cX5_count 23 = .ok (.aload_n 0, 1) := by decide +kernel
theorem dX5_count_24 : decode cX5_count 24 = .ok (.invokevirtual 125, 3) := by decide +kernel
theorem dX5_count_27 : decode cX5_count 27 = .ok (.ireturn, 1) := by decide +kernel
theorem dX5_log_0 : decode cX5_log 0 = .ok (.aload_n 0, 1) := by decide +kernel
theorem dX5_log_1 : decode cX5_log 1 = .ok (.iconst 0, 1) := by decide +kernel
theorem dX5_log_2 : decode cX5_log 2 = .ok (.putfield 37, 3) := by decide +kernel
theorem dX5_log_5 : decode cX5_log 5 = .ok (.iload_n 1, 1) := by decide +kernel
theorem dX5_log_6 : decode cX5_log 6 = .ok (.ifCond .lt 12, 3) := by decide +kernel
theorem dX5_log_9 : decode cX5_log 9 = .ok (.iload_n 2, 1) := by decide +kernel
theorem dX5_log_10 : decode cX5_log 10 = .ok (.iconst 0, 1) := by decide +kernel
theorem dX5_log_11 : decode cX5_log 11 = .ok (.iconst 2, 1) := by decide +kernel
theorem dX5_log_12 : decode cX5_log 12 = .ok (.invokestatic 87, 3) := by decide +kernel
theorem dX5_log_15 : decode cX5_log 15 = .ok (.ifCond .ne 8, 3) := by decide +kernel
theorem dX5_log_18 : decode cX5_log 18 = .ok (.aload_n 0, 1) := by decide +kernel
theorem dX5_log_19 : decode cX5_log 19 = .ok (.invokevirtual 125, 3) := by decide +kernel
theorem dX5_log_22 : decode cX5_log 22 = .ok (.ireturn, 1) := by decide +kernel
theorem dX5_log_23 : decode cX5_log 23 = .ok (.iload_n 1, 1) := by decide +kernel
theorem dX5_log_24 : decode cX5_log 24 = .ok (.aload_n 0, 1) := by decide +kernel
theorem dX5_log_25 : decode cX5_log 25 = .ok (.getfield 7, 3) := by decide +kernel
theorem dX5_log_28 : decode cX5_log 28 = .ok (.bipush 6, 2) := by decide +kernel
theorem dX5_log_30 : decode cX5_log 30 = .ok (.iaload, 1) := by decide +kernel
theorem dX5_log_31 : decode cX5_log 31 = .ok (.if_icmp .ge 19, 3) := by decide +kernel
theorem dX5_log_34 : decode cX5_log 34 = .ok (.aload_n 0, 1) := by decide +kernel
theorem dX5_log_35 : decode cX5_log 35 = .ok (.getfield 7, 3) := by decide +kernel
theorem dX5_log_38 : decode cX5_log 38 = .ok (.bipush 7, 2) := by decide +kernel
theorem dX5_log_40 : decode cX5_log 40 = .ok (.iconst 3, 1) := by decide +kernel
theorem dX5_log_41 : decode cX5_log 41 = .ok (.iload_n 1, 1) := by decide +kernel
theorem dX5_log_42 : decode cX5_log 42 = .ok (.imul, 1) := by decide +kernel
theorem dX5_log_43 : decode cX5_log 43 = .ok (.iadd, 1) := by decide +kernel
theorem dX5_log_44 : decode cX5_log 44 = .ok (.iload_n 2, 1) := by decide +kernel
theorem dX5_log_45 : decode cX5_log 45 = .ok (.iadd, 1) := by decide +kernel
theorem dX5_log_46 : decode cX5_log 46 = .ok (.iaload, 1) := by decide +kernel
theorem dX5_log_47 : decode cX5_log 47 = .ok (.goto 4, 3) := by decide +kernel
theorem dX5_log_50 : decode cX5_log 50 = .ok (.iconst (-1), 1) := by decide +kernel
theorem dX5_log_51 : decode cX5_log 51 = .ok (.ireturn, 1) := by decide +kernel
theorem dX5_type_0 : decode cX5_type 0 = .ok (.aload_n 0, 1) := by decide +kernel
theorem dX5_type_1 : decode cX5_type 1 = .ok (.iconst 0, 1) := by decide +kernel
theorem dX5_type_2 : decode cX5_type 2 = .ok (.putfield 37, 3) := by decide +kernel
theorem dX5_type_5 : decode cX5_type 5 = .ok (.iload_n 1, 1) := by decide +kernel
theorem dX5_type_6 : decode cX5_type 6 = .ok (.iconst 0, 1) := by decide +kernel
theorem dX5_type_7 : decode cX5_type 7 = .ok (.bipush 127, 2) := by decide +kernel
theorem dX5_type_9 : decode cX5_type 9 = .ok (.invokestatic 87, 3) := by decide +kernel
theorem dX5_type_12 : decode cX5_type 12 = .ok (.ifCond .ne 8, 3) := by decide +kernel
theorem dX5_type_15 : decode cX5_type 15 = .ok (.aload_n 0, 1) := by decide +kernel
theorem dX5_type_16 : decode cX5_type 16 = .ok (.invokevirtual 125, 3) := by decide +kernel
theorem dX5_type_19 : decode cX5_type 19 = .ok (.ireturn, 1) := by decide +kernel
theorem dX5_type_20 : decode cX5_type 20 = .ok (.aload_n 0, 1) := by decide +kernel
theorem dX5_type_21 : decode cX5_type 21 = .ok (.getfield 137, 3) := by decide +kernel
theorem dX5_type_24 : decode cX5_type 24 = .ok (.bipush 120, 2) := by decide +kernel
theorem dX5_type_26 : decode cX5_type 26 = .ok (.if_icmp .ne 11, 3) := by decide +kernel
theorem dX5_type_29 : decode cX5_type 29 = .ok (.aload_n 0, 1) := by decide +kernel
theorem dX5_type_30 : decode cX5_type 30 = .ok (.bipush (-4), 2) := by decide +kernel
theorem dX5_type_32 : decode cX5_type 32 = .ok (.iconst 1, 1) := by decide +kernel
theorem dX5_type_33 : decode cX5_type 33 = .ok (.invokevirtual 41, 3) := by decide +kernel
theorem dX5_type_36 : decode cX5_type 36 = .ok (.ireturn, 1) := by decide +kernel
theorem dX5_type_37 : decode cX5_type 37 = .ok (.aload_n 0, 1) := by decide +kernel
theorem dX5_type_38 : decode cX5_type 38 = .ok (.getfield 31, 3) := by decide +kernel
theorem dX5_type_41 : decode cX5_type 41 = .ok (.aload_n 0, 1) := by decide +kernel
theorem dX5_type_42 : decode cX5_type 42 = .ok (.getfield 137, 3) := by decide +kernel
theorem dX5_type_45 : decode cX5_type 45 = .ok (.iload_n 1, 1) := by decide +kernel
theorem dX5_type_46 : decode cX5_type 46 = .ok (.iastore, 1) := by decide +kernel
theorem dX5_type_47 : decode cX5_type 47 = .ok (.aload_n 0, 1) := by decide +kernel
theorem dX5_type_48 : decode cX5_type 48 = .ok (.dup, 1) := by decide +kernel
theorem dX5_type_49 : decode cX5_type 49 = .ok (.getfield 137, 3) := by decide +kernel
theorem dX5_type_52 : decode cX5_type 52 = .ok (.iconst 1, 1) := by decide +kernel
theorem dX5_type_53 : decode cX5_type 53 = .ok (.iadd, 1) := by decide +kernel
theorem dX5_type_54 : decode cX5_type 54 = .ok (.putfield 137, 3) := by decide +kernel
theorem dX5_type_57 : decode cX5_type 57 = .ok (.aload_n 0, 1) := by decide +kernel
theorem dX5_type_58 : decode cX5_type 58 = .ok (.getfield 137, 3) := by decide +kernel
theorem dX5_type_61 : decode cX5_type 61 = .ok (.ireturn, 1) := by decide +kernel
theorem dX5_clear_0 : decode cX5_clear 0 = .ok (.aload_n 0, 1) := by decide +kernel
theorem dX5_clear_1 : decode cX5_clear 1 = .ok (.iconst 0, 1) := by decide +kernel
theorem dX5_clear_2 : decode cX5_clear 2 = .ok (.putfield 37, 3) := by decide +kernel
theorem dX5_clear_5 : decode cX5_clear 5 = .ok (.aload_n 0, 1) := by decide +kernel
theorem dX5_clear_6 : decode cX5_clear 6 = .ok (.getfield 137, 3) := by decide +kernel
theorem dX5_clear_9 : decode cX5_clear 9 = .ok (.istore_n 1, 1) := by decide +kernel
theorem dX5_clear_10 : decode cX5_clear 10 = .ok (.aload_n 0, 1) := by decide +kernel
theorem dX5_clear_11 : decode cX5_clear 11 = .ok (.iconst 0, 1) := by decide +kernel
theorem dX5_clear_12 : decode cX5_clear 12 = .ok (.putfield 137, 3) := by decide +kernel
theorem dX5_clear_15 : decode cX5_clear 15 = .ok (.iload_n 1, 1) := by decide +kernel
theorem dX5_clear_16 : decode cX5_clear 16 = .ok (.ireturn, 1) := by decide +kernel
theorem dX5_blanks_0 : decode cX5_blanks 0 = .ok (.aload_n 0, 1) := by decide +kernel
theorem dX5_blanks_1 : decode cX5_blanks 1 = .ok (.getfield 140, 3) := by decide +kernel
theorem dX5_blanks_4 : decode cX5_blanks 4 = .ok (.aload_n 0, 1) := by decide +kernel
theorem dX5_blanks_5 : decode cX5_blanks 5 = .ok (.getfield 137, 3) := by decide +kernel
theorem dX5_blanks_8 : decode cX5_blanks 8 = .ok (.if_icmp .ge 30, 3) := by decide +kernel
theorem dX5_blanks_11 : decode cX5_blanks 11 = .ok (.aload_n 0, 1) := by decide +kernel
end
section
theorem dX5_blanks_12 : decode cX5_blanks 12 = .ok (.getfield 31, 3) := by decide +kernel
theorem dX5_blanks_15 : decode cX5_blanks 15 = .ok (.aload_n 0, 1) := by decide +kernel
theorem dX5_blanks_16 : decode cX5_blanks 16 = .ok (.getfield 140, 3) := by decide +kernel
theorem dX5_blanks_19 : decode cX5_blanks 19 = .ok (.iaload, 1) := by decide +kernel
theorem dX5_blanks_20 : decode cX5_blanks 20 = .ok (.bipush 32, 2) := by decide +kernel
theorem dX5_blanks_22 : decode cX5_blanks 22 = .ok (.if_icmp .ne 16, 3) := by decide +kernel
theorem dX5_blanks_25 : decode cX5_blanks 25 = .ok (.aload_n 0, 1) := by decide +kernel
theorem dX5_blanks_26 : decode cX5_blanks 26 = .ok (.dup, 1) := by decide +kernel
theorem dX5_blanks_27 : decode cX5_blanks 27 = .ok (.getfield 140, 3) := by decide +kernel
theorem dX5_blanks_30 : decode cX5_blanks 30 = .ok (.iconst 1, 1) := by decide +kernel
theorem dX5_blanks_31 : decode cX5_blanks 31 = .ok (.iadd, 1) := by decide +kernel
theorem dX5_blanks_32 : decode cX5_blanks 32 = .ok (.putfield 140, 3) := by decide +kernel
theorem dX5_blanks_35 : decode cX5_blanks 35 = .ok (.goto (-35), 3) := by decide +kernel
theorem dX5_blanks_38 : decode cX5_blanks 38 = .ok (.return_, 1) := by decide +kernel
theorem dX5_isFigure_0 : decode cX5_isFigure 0 = .ok (.aload_n 0, 1) := by decide +kernel
theorem dX5_isFigure_1 : decode cX5_isFigure 1 = .ok (.getfield 140, 3) := by decide +kernel
theorem dX5_isFigure_4 : decode cX5_isFigure 4 = .ok (.aload_n 0, 1) := by decide +kernel
theorem dX5_isFigure_5 : decode cX5_isFigure 5 = .ok (.getfield 137, 3) := by decide +kernel
theorem dX5_isFigure_8 : decode cX5_isFigure 8 = .ok (.if_icmp .ge 26, 3) := by decide +kernel
theorem dX5_isFigure_11 : decode cX5_isFigure 11 = .ok (.aload_n 0, 1) := by decide +kernel
theorem dX5_isFigure_12 : decode cX5_isFigure 12 = .ok (.getfield 31, 3) := by decide +kernel
theorem dX5_isFigure_15 : decode cX5_isFigure 15 = .ok (.aload_n 0, 1) := by decide +kernel
theorem dX5_isFigure_16 : decode cX5_isFigure 16 = .ok (.getfield 140, 3) := by decide +kernel
theorem dX5_isFigure_19 : decode cX5_isFigure 19 = .ok (.iaload, 1) := by decide +kernel
theorem dX5_isFigure_20 : decode cX5_isFigure 20 = .ok (.bipush 48, 2) := by decide +kernel
theorem dX5_isFigure_22 : decode cX5_isFigure 22 = .ok (.bipush 57, 2) := by decide +kernel
theorem dX5_isFigure_24 : decode cX5_isFigure 24 = .ok (.invokestatic 87, 3) := by decide +kernel
theorem dX5_isFigure_27 : decode cX5_isFigure 27 = .ok (.ifCond .eq 7, 3) := by decide +kernel
theorem dX5_isFigure_30 : decode cX5_isFigure 30 = .ok (.iconst 1, 1) := by decide +kernel
theorem dX5_isFigure_31 : decode cX5_isFigure 31 = .ok (.goto 4, 3) := by decide +kernel
theorem dX5_isFigure_34 : decode cX5_isFigure 34 = .ok (.iconst 0, 1) := by decide +kernel
theorem dX5_isFigure_35 : decode cX5_isFigure 35 = .ok (.ireturn, 1) := by decide +kernel
theorem dX5_number_0 : decode cX5_number 0 = .ok (.aload_n 0, 1) := by decide +kernel
theorem dX5_number_1 : decode cX5_number 1 = .ok (.invokevirtual 143, 3) := by decide +kernel
theorem dX5_number_4 : decode cX5_number 4 = .ok (.iconst 0, 1) := by decide +kernel
theorem dX5_number_5 : decode cX5_number 5 = .ok (.istore_n 1, 1) := by decide +kernel
theorem dX5_number_6 : decode cX5_number 6 = .ok (.iconst 0, 1) := by decide +kernel
theorem dX5_number_7 : decode cX5_number 7 = .ok (.istore_n 2, 1) := by decide +kernel
theorem dX5_number_8 : decode cX5_number 8 = .ok (.aload_n 0, 1) := by decide +kernel
theorem dX5_number_9 : decode cX5_number 9 = .ok (.getfield 146, 3) := by decide +kernel
theorem dX5_number_12 : decode cX5_number 12 = .ok (.iconst (-1), 1) := by decide +kernel
theorem dX5_number_13 : decode cX5_number 13 = .ok (.if_icmp .ne 49, 3) := by decide +kernel
theorem dX5_number_16 : decode cX5_number 16 = .ok (.iload_n 2, 1) := by decide +kernel
theorem dX5_number_17 : decode cX5_number 17 = .ok (.iconst 3, 1) := by decide +kernel
theorem dX5_number_18 : decode cX5_number 18 = .ok (.if_icmp .ge 44, 3) := by decide +kernel
theorem dX5_number_21 : decode cX5_number 21 = .ok (.aload_n 0, 1) := by decide +kernel
theorem dX5_number_22 : decode cX5_number 22 = .ok (.invokevirtual 149, 3) := by decide +kernel
theorem dX5_number_25 : decode cX5_number 25 = .ok (.ifCond .eq 37, 3) := by decide +kernel
theorem dX5_number_28 : decode cX5_number 28 = .ok (.bipush 10, 2) := by decide +kernel
theorem dX5_number_30 : decode cX5_number 30 = .ok (.iload_n 1, 1) := by decide +kernel
theorem dX5_number_31 : decode cX5_number 31 = .ok (.imul, 1) := by decide +kernel
theorem dX5_number_32 : decode cX5_number 32 = .ok (.aload_n 0, 1) := by decide +kernel
theorem dX5_number_33 : decode cX5_number 33 = .ok (.getfield 31, 3) := by decide +kernel
theorem dX5_number_36 : decode cX5_number 36 = .ok (.aload_n 0, 1) := by decide +kernel
theorem dX5_number_37 : decode cX5_number 37 = .ok (.getfield 140, 3) := by decide +kernel
theorem dX5_number_40 : decode cX5_number 40 = .ok (.iaload, 1) := by decide +kernel
theorem dX5_number_41 : decode cX5_number 41 = .ok (.iadd, 1) := by decide +kernel
theorem dX5_number_42 : decode cX5_number 42 = .ok (.bipush 48, 2) := by decide +kernel
theorem dX5_number_44 : decode cX5_number 44 = .ok (.isub, 1) := by decide +kernel
theorem dX5_number_45 : decode cX5_number 45 = .ok (.istore_n 1, 1) := by decide +kernel
theorem dX5_number_46 : decode cX5_number 46 = .ok (.aload_n 0, 1) := by decide +kernel
theorem dX5_number_47 : decode cX5_number 47 = .ok (.dup, 1) := by decide +kernel
theorem dX5_number_48 : decode cX5_number 48 = .ok (.getfield 140, 3) := by decide +kernel
theorem dX5_number_51 : decode cX5_number 51 = .ok (.iconst 1, 1) := by decide +kernel
theorem dX5_number_52 : decode cX5_number 52 = .ok (.iadd, 1) := by decide +kernel
theorem dX5_number_53 : decode cX5_number 53 = .ok (.putfield 140, 3) := by decide +kernel
theorem dX5_number_56 : decode cX5_number 56 = .ok (.iinc 2 1, 3) := by decide +kernel
theorem dX5_number_59 : decode cX5_number 59 = .ok (.goto (-51), 3) := by decide +kernel
theorem dX5_number_62 : decode cX5_number 62 = .ok (.aload_n 0, 1) := by decide +kernel
theorem dX5_number_63 : decode cX5_number 63 = .ok (.getfield 146, 3) := by decide +kernel
theorem dX5_number_66 : decode cX5_number 66 = .ok (.iconst (-1), 1) := by decide +kernel
theorem dX5_number_67 : decode cX5_number 67 = .ok (.if_icmp .ne 22, 3) := by decide +kernel
theorem dX5_number_70 : decode cX5_number 70 = .ok (.iload_n 2, 1) := by decide +kernel
theorem dX5_number_71 : decode cX5_number 71 = .ok (.ifCond .eq 10, 3) := by decide +kernel
theorem dX5_number_74 : decode cX5_number 74 = .ok (.aload_n 0, 1) := by decide +kernel
theorem dX5_number_75 : decode cX5_number 75 = .ok (.invokevirtual 149, 3) := by decide +kernel
theorem dX5_number_78 : decode cX5_number 78 = .ok (.ifCond .eq 11, 3) := by decide +kernel
theorem dX5_number_81 : decode cX5_number 81 = .ok (.aload_n 0, 1) := by decide +kernel
theorem dX5_number_82 : decode cX5_number 82 = .ok (.aload_n 0, 1) := by decide +kernel
theorem dX5_number_83 : decode cX5_number 83 = .ok (.getfield 140, 3) := by decide +kernel
theorem dX5_number_86 : decode cX5_number 86 = .ok (.putfield 146, 3) := by decide +kernel
theorem dX5_number_89 : decode cX5_number 89 = .ok (.iload_n 1, 1) := by decide +kernel
theorem dX5_number_90 : decode cX5_number 90 = .ok (.ireturn, 1) := by decide +kernel
theorem dX5_sign_0 : decode cX5_sign 0 = .ok (.aload_n 0, 1) := by decide +kernel
theorem dX5_sign_1 : decode cX5_sign 1 = .ok (.invokevirtual 143, 3) := by decide +kernel
theorem dX5_sign_4 : decode cX5_sign 4 = .ok (.aload_n 0, 1) := by decide +kernel
theorem dX5_sign_5 : decode cX5_sign 5 = .ok (.getfield 146, 3) := by decide +kernel
theorem dX5_sign_8 : decode cX5_sign 8 = .ok (.iconst (-1), 1) := by decide +kernel
theorem dX5_sign_9 : decode cX5_sign 9 = .ok (.if_icmp .ne 35, 3) := by decide +kernel
theorem dX5_sign_12 : decode cX5_sign 12 = .ok (.aload_n 0, 1) := by decide +kernel
theorem dX5_sign_13 : decode cX5_sign 13 = .ok (.getfield 140, 3) := by decide +kernel
theorem dX5_sign_16 : decode cX5_sign 16 = .ok (.aload_n 0, 1) := by decide +kernel
theorem dX5_sign_17 : decode cX5_sign 17 = .ok (.getfield 137, 3) := by decide +kernel
theorem dX5_sign_20 : decode cX5_sign 20 = .ok (.if_icmp .eq 16, 3) := by decide +kernel
theorem dX5_sign_23 : decode cX5_sign 23 = .ok (.aload_n 0, 1) := by decide +kernel
theorem dX5_sign_24 : decode cX5_sign 24 = .ok (.getfield 31, 3) := by decide +kernel
theorem dX5_sign_27 : decode cX5_sign 27 = .ok (.aload_n 0, 1) := by decide +kernel
theorem dX5_sign_28 : decode cX5_sign 28 = .ok (.getfield 140, 3) := by decide +kernel
theorem dX5_sign_31 : decode cX5_sign 31 = .ok (.iaload, 1) := by decide +kernel
theorem dX5_sign_32 : decode cX5_sign 32 = .ok (.iload_n 1, 1) := by decide +kernel
theorem dX5_sign_33 : decode cX5_sign 33 = .ok (.if_icmp .eq 11, 3) := by decide +kernel
theorem dX5_sign_36 : decode cX5_sign 36 = .ok (.aload_n 0, 1) := by decide +kernel
theorem dX5_sign_37 : decode cX5_sign 37 = .ok (.aload_n 0, 1) := by decide +kernel
theorem dX5_sign_38 : decode cX5_sign 38 = .ok (.getfield 140, 3) := by decide +kernel
theorem dX5_sign_41 : decode cX5_sign 41 = .ok (.putfield 146, 3) := by decide +kernel
theorem dX5_sign_44 : decode cX5_sign 44 = .ok (.aload_n 0, 1) := by decide +kernel
theorem dX5_sign_45 : decode cX5_sign 45 = .ok (.dup, 1) := by decide +kernel
theorem dX5_sign_46 : decode cX5_sign 46 = .ok (.getfield 140, 3) := by decide +kernel
theorem dX5_sign_49 : decode cX5_sign 49 = .ok (.iconst 1, 1) := by decide +kernel
theorem dX5_sign_50 : decode cX5_sign 50 = .ok (.iadd, 1) := by decide +kernel
theorem dX5_sign_51 : decode cX5_sign 51 = .ok (.putfield 140, 3) := by decide +kernel
theorem dX5_sign_54 : decode cX5_sign 54 = .ok (.return_, 1) := by decide +kernel
theorem dX5_readsOrder_0 : decode cX5_readsOrder 0 = .ok (.aload_n 0, 1) := by decide +kernel
theorem dX5_readsOrder_1 : decode cX5_readsOrder 1 = .ok (.getfield 31, 3) := by decide +kernel
theorem dX5_readsOrder_4 : decode cX5_readsOrder 4 = .ok (.aload_n 0, 1) := by decide +kernel
theorem dX5_readsOrder_5 : decode cX5_readsOrder 5 = .ok (.getfield 140, 3) := by decide +kernel
theorem dX5_readsOrder_8 : decode cX5_readsOrder 8 = .ok (.iaload, 1) := by decide +kernel
theorem dX5_readsOrder_9 : decode cX5_readsOrder 9 = .ok (.istore_n 1, 1) := by decide +kernel
theorem dX5_readsOrder_10 : decode cX5_readsOrder 10 = .ok (.iload_n 1, 1) := by decide +kernel
theorem dX5_readsOrder_11 : decode cX5_readsOrder 11 = .ok (.bipush 112, 2) := by decide +kernel
theorem dX5_readsOrder_13 : decode cX5_readsOrder 13 = .ok (.if_icmp .eq 9, 3) := by decide +kernel
theorem dX5_readsOrder_16 : decode cX5_readsOrder 16 = .ok (.iload_n 1, 1) := by decide +kernel
theorem dX5_readsOrder_17 : decode cX5_readsOrder 17 = .ok (.bipush 100, 2) := by decide +kernel
theorem dX5_readsOrder_19 : decode cX5_readsOrder 19 = .ok (.if_icmp .ne 7, 3) := by decide +kernel
theorem dX5_readsOrder_22 : decode cX5_readsOrder 22 = .ok (.iconst 1, 1) := by decide +kernel
theorem dX5_readsOrder_23 : decode cX5_readsOrder 23 = .ok (.goto 4, 3) := by decide +kernel
theorem dX5_readsOrder_26 : decode cX5_readsOrder 26 = .ok (.iconst 0, 1) := by decide +kernel
theorem dX5_readsOrder_27 : decode cX5_readsOrder 27 = .ok (.istore_n 2, 1) := by decide +kernel
theorem dX5_readsOrder_28 : decode cX5_readsOrder 28 = .ok (.iload_n 2, 1) := by decide +kernel
theorem dX5_readsOrder_29 : decode cX5_readsOrder 29 = .ok (.ifCond .ne 24, 3) := by decide +kernel
theorem dX5_readsOrder_32 : decode cX5_readsOrder 32 = .ok (.iload_n 1, 1) := by decide +kernel
theorem dX5_readsOrder_33 : decode cX5_readsOrder 33 = .ok (.bipush 116, 2) := by decide +kernel
theorem dX5_readsOrder_35 : decode cX5_readsOrder 35 = .ok (.if_icmp .eq 18, 3) := by decide +kernel
theorem dX5_readsOrder_38 : decode cX5_readsOrder 38 = .ok (.iload_n 1, 1) := by decide +kernel
theorem dX5_readsOrder_39 : decode cX5_readsOrder 39 = .ok (.bipush 109, 2) := by decide +kernel
theorem dX5_readsOrder_41 : decode cX5_readsOrder 41 = .ok (.if_icmp .eq 12, 3) := by decide +kernel
theorem dX5_readsOrder_44 : decode cX5_readsOrder 44 = .ok (.aload_n 0, 1) := by decide +kernel
theorem dX5_readsOrder_45 : decode cX5_readsOrder 45 = .ok (.aload_n 0, 1) := by decide +kernel
theorem dX5_readsOrder_46 : decode cX5_readsOrder 46 = .ok (.getfield 140, 3) := by decide +kernel
theorem dX5_readsOrder_49 : decode cX5_readsOrder 49 = .ok (.putfield 146, 3) := by decide +kernel
theorem dX5_readsOrder_52 : decode cX5_readsOrder 52 = .ok (.return_, 1) := by decide +kernel
theorem dX5_readsOrder_53 : decode cX5_readsOrder 53 = .ok (.aload_n 0, 1) := by decide +kernel
theorem dX5_readsOrder_54 : decode cX5_readsOrder 54 = .ok (.dup, 1) := by decide +kernel
theorem dX5_readsOrder_55 : decode cX5_readsOrder 55 = .ok (.getfield 140, 3) := by decide +kernel
theorem dX5_readsOrder_58 : decode cX5_readsOrder 58 = .ok (.iconst 1, 1) := by decide +kernel
theorem dX5_readsOrder_59 : decode cX5_readsOrder 59 = .ok (.iadd, 1) := by decide +kernel
theorem dX5_readsOrder_60 : decode cX5_readsOrder 60 = .ok (.putfield 140, 3) := by decide +kernel
theorem dX5_readsOrder_63 : decode cX5_readsOrder 63 = .ok (.aload_n 0, 1) := by decide +kernel
theorem dX5_readsOrder_64 : decode cX5_readsOrder 64 = .ok (.invokevirtual 153, 3) := by decide +kernel
theorem dX5_readsOrder_67 : decode cX5_readsOrder 67 = .ok (.istore_n 3, 1) := by decide +kernel
theorem dX5_readsOrder_68 : decode cX5_readsOrder 68 = .ok (.iload_n 2, 1) := by decide +kernel
theorem dX5_readsOrder_69 : decode cX5_readsOrder 69 = .ok (.ifCond .eq 10, 3) := by decide +kernel
theorem dX5_readsOrder_72 : decode cX5_readsOrder 72 = .ok (.aload_n 0, 1) := by decide +kernel
theorem dX5_readsOrder_73 : decode cX5_readsOrder 73 = .ok (.invokevirtual 153, 3) := by decide +kernel
theorem dX5_readsOrder_76 : decode cX5_readsOrder 76 = .ok (.goto 4, 3) := by decide +kernel
theorem dX5_readsOrder_79 : decode cX5_readsOrder 79 = .ok (.iconst 0, 1) := by decide +kernel
theorem dX5_readsOrder_80 : decode cX5_readsOrder 80 = .ok (.istore 4, 2) := by decide +kernel
theorem dX5_readsOrder_82 : decode cX5_readsOrder 82 = .ok (.aload_n 0, 1) := by decide +kernel
theorem dX5_readsOrder_83 : decode cX5_readsOrder 83 = .ok (.bipush 59, 2) := by decide +kernel
theorem dX5_readsOrder_85 : decode cX5_readsOrder 85 = .ok (.invokevirtual 156, 3) := by decide +kernel
theorem dX5_readsOrder_88 : decode cX5_readsOrder 88 = .ok (.aload_n 0, 1) := by decide +kernel
theorem dX5_readsOrder_89 : decode cX5_readsOrder 89 = .ok (.getfield 146, 3) := by decide +kernel
theorem dX5_readsOrder_92 : decode cX5_readsOrder 92 = .ok (.iconst (-1), 1) := by decide +kernel
theorem dX5_readsOrder_93 : decode cX5_readsOrder 93 = .ok (.if_icmp .ne 54, 3) := by decide +kernel
theorem dX5_readsOrder_96 : decode cX5_readsOrder 96 = .ok (.aload_n 0, 1) := by decide +kernel
theorem dX5_readsOrder_97 : decode cX5_readsOrder 97 = .ok (.getfield 34, 3) := by decide +kernel
theorem dX5_readsOrder_100 : decode cX5_readsOrder 100 = .ok (.iconst 3, 1) := by decide +kernel
theorem dX5_readsOrder_101 : decode cX5_readsOrder 101 = .ok (.aload_n 0, 1) := by decide +kernel
theorem dX5_readsOrder_102 : decode cX5_readsOrder 102 = .ok (.getfield 159, 3) := by decide +kernel
theorem dX5_readsOrder_105 : decode cX5_readsOrder 105 = .ok (.imul, 1) := by decide +kernel
theorem dX5_readsOrder_106 : decode cX5_readsOrder 106 = .ok (.iload_n 1, 1) := by decide +kernel
theorem dX5_readsOrder_107 : decode cX5_readsOrder 107 = .ok (.iastore, 1) := by decide +kernel
theorem dX5_readsOrder_108 : decode cX5_readsOrder 108 = .ok (.aload_n 0, 1) := by decide +kernel
theorem dX5_readsOrder_109 : decode cX5_readsOrder 109 = .ok (.getfield 34, 3) := by decide +kernel
theorem dX5_readsOrder_112 : decode cX5_readsOrder 112 = .ok (.iconst 3, 1) := by decide +kernel
theorem dX5_readsOrder_113 : decode cX5_readsOrder 113 = .ok (.aload_n 0, 1) := by decide +kernel
theorem dX5_readsOrder_114 : decode cX5_readsOrder 114 = .ok (.getfield 159, 3) := by decide +kernel
theorem dX5_readsOrder_117 : decode cX5_readsOrder 117 = .ok (.imul, 1) := by decide +kernel
theorem dX5_readsOrder_118 : decode cX5_readsOrder 118 = .ok (.iconst 1, 1) := by decide +kernel
theorem dX5_readsOrder_119 : decode cX5_readsOrder 119 = .ok (.iadd, 1) := by decide +kernel
theorem dX5_readsOrder_120 : decode cX5_readsOrder 120 = .ok (.iload_n 3, 1) := by decide +kernel
theorem dX5_readsOrder_121 : decode cX5_readsOrder 121 = .ok (.iastore, 1) := by decide +kernel
theorem dX5_readsOrder_122 : decode cX5_readsOrder 122 = .ok (.aload_n 0, 1) := by decide +kernel
theorem dX5_readsOrder_123 : decode cX5_readsOrder 123 = .ok (.getfield 34, 3) := by decide +kernel
theorem dX5_readsOrder_126 : decode cX5_readsOrder 126 = .ok (.iconst 3, 1) := by decide +kernel
theorem dX5_readsOrder_127 : decode cX5_readsOrder 127 = .ok (.aload_n 0, 1) := by decide +kernel
theorem dX5_readsOrder_128 : decode cX5_readsOrder 128 = .ok (.getfield 159, 3) := by decide +kernel
theorem dX5_readsOrder_131 : decode cX5_readsOrder 131 = .ok (.imul, 1) := by decide +kernel
theorem dX5_readsOrder_132 : decode cX5_readsOrder 132 = .ok (.iconst 2, 1) := by decide +kernel
theorem dX5_readsOrder_133 : decode cX5_readsOrder 133 = .ok (.iadd, 1) := by decide +kernel
theorem dX5_readsOrder_134 : decode cX5_readsOrder 134 = .ok (.iload 4, 2) := by decide +kernel
theorem dX5_readsOrder_136 : decode cX5_readsOrder 136 = .ok (.iastore, 1) := by decide +kernel
theorem dX5_readsOrder_137 : decode cX5_readsOrder 137 = .ok (.aload_n 0, 1) := by decide +kernel
theorem dX5_readsOrder_138 : decode cX5_readsOrder 138 = .ok (.dup, 1) := by decide +kernel
theorem dX5_readsOrder_139 : decode cX5_readsOrder 139 = .ok (.getfield 159, 3) := by decide +kernel
theorem dX5_readsOrder_142 : decode cX5_readsOrder 142 = .ok (.iconst 1, 1) := by decide +kernel
theorem dX5_readsOrder_143 : decode cX5_readsOrder 143 = .ok (.iadd, 1) := by decide +kernel
theorem dX5_readsOrder_144 : decode cX5_readsOrder 144 = .ok (.putfield 159, 3) := by decide +kernel
theorem dX5_readsOrder_147 : decode cX5_readsOrder 147 = .ok (.return_, 1) := by decide +kernel
theorem dX5_reads_0 : decode cX5_reads 0 = .ok (.aload_n 0, 1) := by decide +kernel
theorem dX5_reads_1 : decode cX5_reads 1 = .ok (.iconst 0, 1) := by decide +kernel
theorem dX5_reads_2 : decode cX5_reads 2 = .ok (.putfield 140, 3) := by decide +kernel
theorem dX5_reads_5 : decode cX5_reads 5 = .ok (.aload_n 0, 1) := by decide +kernel
theorem dX5_reads_6 : decode cX5_reads 6 = .ok (.iconst 0, 1) := by decide +kernel
theorem dX5_reads_7 : decode cX5_reads 7 = .ok (.putfield 159, 3) := by decide +kernel
theorem dX5_reads_10 : decode cX5_reads 10 = .ok (.aload_n 0, 1) := by decide +kernel
theorem dX5_reads_11 : decode cX5_reads 11 = .ok (.iconst (-1), 1) := by decide +kernel
theorem dX5_reads_12 : decode cX5_reads 12 = .ok (.putfield 146, 3) := by decide +kernel
theorem dX5_reads_15 : decode cX5_reads 15 = .ok (.aload_n 0, 1) := by decide +kernel
theorem dX5_reads_16 : decode cX5_reads 16 = .ok (.invokevirtual 143, 3) := by decide +kernel
theorem dX5_reads_19 : decode cX5_reads 19 = .ok (.aload_n 0, 1) := by decide +kernel
theorem dX5_reads_20 : decode cX5_reads 20 = .ok (.getfield 146, 3) := by decide +kernel
theorem dX5_reads_23 : decode cX5_reads 23 = .ok (.iconst (-1), 1) := by decide +kernel
theorem dX5_reads_24 : decode cX5_reads 24 = .ok (.if_icmp .ne 33, 3) := by decide +kernel
theorem dX5_reads_27 : decode cX5_reads 27 = .ok (.aload_n 0, 1) := by decide +kernel
theorem dX5_reads_28 : decode cX5_reads 28 = .ok (.getfield 140, 3) := by decide +kernel
theorem dX5_reads_31 : decode cX5_reads 31 = .ok (.aload_n 0, 1) := by decide +kernel
theorem dX5_reads_32 : decode cX5_reads 32 = .ok (.getfield 137, 3) := by decide +kernel
theorem dX5_reads_35 : decode cX5_reads 35 = .ok (.if_icmp .ge 22, 3) := by decide +kernel
theorem dX5_reads_38 : decode cX5_reads 38 = .ok (.aload_n 0, 1) := by decide +kernel
theorem dX5_reads_39 : decode cX5_reads 39 = .ok (.invokevirtual 162, 3) := by decide +kernel
theorem dX5_reads_42 : decode cX5_reads 42 = .ok (.aload_n 0, 1) := by decide +kernel
theorem dX5_reads_43 : decode cX5_reads 43 = .ok (.getfield 146, 3) := by decide +kernel
theorem dX5_reads_46 : decode cX5_reads 46 = .ok (.iconst (-1), 1) := by decide +kernel
theorem dX5_reads_47 : decode cX5_reads 47 = .ok (.if_icmp .ne (-28), 3) := by decide +kernel
theorem dX5_reads_50 : decode cX5_reads 50 = .ok (.aload_n 0, 1) := by decide +kernel
theorem dX5_reads_51 : decode cX5_reads 51 = .ok (.invokevirtual 143, 3) := by decide +kernel
theorem dX5_reads_54 : decode cX5_reads 54 = .ok (.goto (-35), 3) := by decide +kernel
theorem dX5_reads_57 : decode cX5_reads 57 = .ok (.aload_n 0, 1) := by decide +kernel
theorem dX5_reads_58 : decode cX5_reads 58 = .ok (.getfield 146, 3) := by decide +kernel
theorem dX5_reads_61 : decode cX5_reads 61 = .ok (.iconst (-1), 1) := by decide +kernel
theorem dX5_reads_62 : decode cX5_reads 62 = .ok (.if_icmp .ne 18, 3) := by decide +kernel
theorem dX5_reads_65 : decode cX5_reads 65 = .ok (.aload_n 0, 1) := by decide +kernel
theorem dX5_reads_66 : decode cX5_reads 66 = .ok (.getfield 159, 3) := by decide +kernel
theorem dX5_reads_69 : decode cX5_reads 69 = .ok (.ifCond .ne 11, 3) := by decide +kernel
theorem dX5_reads_72 : decode cX5_reads 72 = .ok (.aload_n 0, 1) := by decide +kernel
theorem dX5_reads_73 : decode cX5_reads 73 = .ok (.aload_n 0, 1) := by decide +kernel
theorem dX5_reads_74 : decode cX5_reads 74 = .ok (.getfield 137, 3) := by decide +kernel
theorem dX5_reads_77 : decode cX5_reads 77 = .ok (.putfield 146, 3) := by decide +kernel
theorem dX5_reads_80 : decode cX5_reads 80 = .ok (.return_, 1) := by decide +kernel
theorem dX5_doneBy_0 : decode cX5_doneBy 0 = .ok (.aload_n 0, 1) := by decide +kernel
theorem dX5_doneBy_1 : decode cX5_doneBy 1 = .ok (.getfield 34, 3) := by decide +kernel
theorem dX5_doneBy_4 : decode cX5_doneBy 4 = .ok (.iconst 3, 1) := by decide +kernel
theorem dX5_doneBy_5 : decode cX5_doneBy 5 = .ok (.iload_n 1, 1) := by decide +kernel
theorem dX5_doneBy_6 : decode cX5_doneBy 6 = .ok (.imul, 1) := by decide +kernel
theorem dX5_doneBy_7 : decode cX5_doneBy 7 = .ok (.iconst 1, 1) := by decide +kernel
theorem dX5_doneBy_8 : decode cX5_doneBy 8 = .ok (.iadd, 1) := by decide +kernel
theorem dX5_doneBy_9 : decode cX5_doneBy 9 = .ok (.iaload, 1) := by decide +kernel
theorem dX5_doneBy_10 : decode cX5_doneBy 10 = .ok (.istore_n 2, 1) := by decide +kernel
theorem dX5_doneBy_11 : decode cX5_doneBy 11 = .ok (.aload_n 0, 1) := by decide +kernel
theorem dX5_doneBy_12 : decode cX5_doneBy 12 = .ok (.getfield 34, 3) := by decide +kernel
theorem dX5_doneBy_15 : decode cX5_doneBy 15 = .ok (.iconst 3, 1) := by decide +kernel
theorem dX5_doneBy_16 : decode cX5_doneBy 16 = .ok (.iload_n 1, 1) := by decide +kernel
theorem dX5_doneBy_17 : decode cX5_doneBy 17 = .ok (.imul, 1) := by decide +kernel
theorem dX5_doneBy_18 : decode cX5_doneBy 18 = .ok (.iconst 2, 1) := by decide +kernel
theorem dX5_doneBy_19 : decode cX5_doneBy 19 = .ok (.iadd, 1) := by decide +kernel
theorem dX5_doneBy_20 : decode cX5_doneBy 20 = .ok (.iaload, 1) := by decide +kernel
theorem dX5_doneBy_21 : decode cX5_doneBy 21 = .ok (.istore_n 3, 1) := by decide +kernel
theorem dX5_doneBy_22 : decode cX5_doneBy 22 = .ok (.aload_n 0, 1) := by decide +kernel
theorem dX5_doneBy_23 : decode cX5_doneBy 23 = .ok (.getfield 34, 3) := by decide +kernel
theorem dX5_doneBy_26 : decode cX5_doneBy 26 = .ok (.iconst 3, 1) := by decide +kernel
theorem dX5_doneBy_27 : decode cX5_doneBy 27 = .ok (.iload_n 1, 1) := by decide +kernel
theorem dX5_doneBy_28 : decode cX5_doneBy 28 = .ok (.imul, 1) := by decide +kernel
theorem dX5_doneBy_29 : decode cX5_doneBy 29 = .ok (.iaload, 1) := by decide +kernel
theorem dX5_doneBy_30 : decode cX5_doneBy 30 = .ok (.lookupswitch 53 #[(109, 47), (112, 34), (116, 41)], 34) := by decide +kernel
theorem dX5_doneBy_64 : decode cX5_doneBy 64 = .ok (.aload_n 0, 1) := by decide +kernel
theorem dX5_doneBy_65 : decode cX5_doneBy 65 = .ok (.iload_n 2, 1) := by decide +kernel
theorem dX5_doneBy_66 : decode cX5_doneBy 66 = .ok (.iload_n 3, 1) := by decide +kernel
theorem dX5_doneBy_67 : decode cX5_doneBy 67 = .ok (.invokevirtual 110, 3) := by decide +kernel
theorem dX5_doneBy_70 : decode cX5_doneBy 70 = .ok (.ireturn, 1) := by decide +kernel
theorem dX5_doneBy_71 : decode cX5_doneBy 71 = .ok (.aload_n 0, 1) := by decide +kernel
theorem dX5_doneBy_72 : decode cX5_doneBy 72 = .ok (.iload_n 2, 1) := by decide +kernel
theorem dX5_doneBy_73 : decode cX5_doneBy 73 = .ok (.invokevirtual 116, 3) := by decide +kernel
theorem dX5_doneBy_76 : decode cX5_doneBy 76 = .ok (.ireturn, 1) := by decide +kernel
theorem dX5_doneBy_77 : decode cX5_doneBy 77 = .ok (.aload_n 0, 1) := by decide +kernel
theorem dX5_doneBy_78 : decode cX5_doneBy 78 = .ok (.iload_n 2, 1) := by decide +kernel
theorem dX5_doneBy_79 : decode cX5_doneBy 79 = .ok (.invokevirtual 122, 3) := by decide +kernel
theorem dX5_doneBy_82 : decode cX5_doneBy 82 = .ok (.ireturn, 1) := by decide +kernel
theorem dX5_doneBy_83 : decode cX5_doneBy 83 = .ok (.aload_n 0, 1) := by decide +kernel
theorem dX5_doneBy_84 : decode cX5_doneBy 84 = .ok (.iload_n 2, 1) := by decide +kernel
theorem dX5_doneBy_85 : decode cX5_doneBy 85 = .ok (.iload_n 3, 1) := by decide +kernel
theorem dX5_doneBy_86 : decode cX5_doneBy 86 = .ok (.invokevirtual 119, 3) := by decide +kernel
theorem dX5_doneBy_89 : decode cX5_doneBy 89 = .ok (.ireturn, 1) := by decide +kernel
theorem dX5_does_0 : decode cX5_does 0 = .ok (.aload_n 0, 1) := by decide +kernel
theorem dX5_does_1 : decode cX5_does 1 = .ok (.iconst 0, 1) := by decide +kernel
theorem dX5_does_2 : decode cX5_does 2 = .ok (.putfield 37, 3) := by decide +kernel
theorem dX5_does_5 : decode cX5_does 5 = .ok (.aload_n 0, 1) := by decide +kernel
theorem dX5_does_6 : decode cX5_does 6 = .ok (.invokevirtual 165, 3) := by decide +kernel
theorem dX5_does_9 : decode cX5_does 9 = .ok (.aload_n 0, 1) := by decide +kernel
theorem dX5_does_10 : decode cX5_does 10 = .ok (.getfield 146, 3) := by decide +kernel
theorem dX5_does_13 : decode cX5_does 13 = .ok (.iconst (-1), 1) := by decide +kernel
theorem dX5_does_14 : decode cX5_does 14 = .ok (.if_icmp .eq 11, 3) := by decide +kernel
theorem dX5_does_17 : decode cX5_does 17 = .ok (.bipush (-10), 2) := by decide +kernel
theorem dX5_does_19 : decode cX5_does 19 = .ok (.aload_n 0, 1) := by decide +kernel
theorem dX5_does_20 : decode cX5_does 20 = .ok (.getfield 146, 3) := by decide +kernel
theorem dX5_does_23 : decode cX5_does 23 = .ok (.isub, 1) := by decide +kernel
theorem dX5_does_24 : decode cX5_does 24 = .ok (.ireturn, 1) := by decide +kernel
theorem dX5_does_25 : decode cX5_does 25 = .ok (.aload_n 0, 1) := by decide +kernel
theorem dX5_does_26 : decode cX5_does 26 = .ok (.invokevirtual 107, 3) := by decide +kernel
theorem dX5_does_29 : decode cX5_does 29 = .ok (.iconst 0, 1) := by decide +kernel
theorem dX5_does_30 : decode cX5_does 30 = .ok (.istore_n 1, 1) := by decide +kernel
theorem dX5_does_31 : decode cX5_does 31 = .ok (.iload_n 1, 1) := by decide +kernel
theorem dX5_does_32 : decode cX5_does 32 = .ok (.aload_n 0, 1) := by decide +kernel
theorem dX5_does_33 : decode cX5_does 33 = .ok (.getfield 159, 3) := by decide +kernel
theorem dX5_does_36 : decode cX5_does 36 = .ok (.if_icmp .ge 27, 3) := by decide +kernel
theorem dX5_does_39 : decode cX5_does 39 = .ok (.aload_n 0, 1) := by decide +kernel
theorem dX5_does_40 : decode cX5_does 40 = .ok (.iload_n 1, 1) := by decide +kernel
theorem dX5_does_41 : decode cX5_does 41 = .ok (.invokevirtual 168, 3) := by decide +kernel
theorem dX5_does_44 : decode cX5_does 44 = .ok (.ifCond .ge 13, 3) := by decide +kernel
theorem dX5_does_47 : decode cX5_does 47 = .ok (.aload_n 0, 1) := by decide +kernel
theorem dX5_does_48 : decode cX5_does 48 = .ok (.invokevirtual 171, 3) := by decide +kernel
theorem dX5_does_51 : decode cX5_does 51 = .ok (.sipush (-1000), 3) := by decide +kernel
theorem dX5_does_54 : decode cX5_does 54 = .ok (.iload_n 1, 1) := by decide +kernel
theorem dX5_does_55 : decode cX5_does 55 = .ok (.isub, 1) := by decide +kernel
theorem dX5_does_56 : decode cX5_does 56 = .ok (.ireturn, 1) := by decide +kernel
theorem dX5_does_57 : decode cX5_does 57 = .ok (.iinc 1 1, 3) := by decide +kernel
theorem dX5_does_60 : decode cX5_does 60 = .ok (.goto (-29), 3) := by decide +kernel
theorem dX5_does_63 : decode cX5_does 63 = .ok (.aload_n 0, 1) := by decide +kernel
theorem dX5_does_64 : decode cX5_does 64 = .ok (.invokevirtual 104, 3) := by decide +kernel
theorem dX5_does_67 : decode cX5_does 67 = .ok (.aload_n 0, 1) := by decide +kernel
theorem dX5_does_68 : decode cX5_does 68 = .ok (.getfield 159, 3) := by decide +kernel
theorem dX5_does_71 : decode cX5_does 71 = .ok (.ireturn, 1) := by decide +kernel
theorem dX5_toldOf_0 : decode cX5_toldOf 0 = .ok (.iload_n 1, 1) := by decide +kernel
theorem dX5_toldOf_1 : decode cX5_toldOf 1 = .ok (.iconst 3, 1) := by decide +kernel
theorem dX5_toldOf_2 : decode cX5_toldOf 2 = .ok (.if_icmp .ge 12, 3) := by decide +kernel
theorem dX5_toldOf_5 : decode cX5_toldOf 5 = .ok (.aload_n 0, 1) := by decide +kernel
theorem dX5_toldOf_6 : decode cX5_toldOf 6 = .ok (.getfield 19, 3) := by decide +kernel
theorem dX5_toldOf_9 : decode cX5_toldOf 9 = .ok (.iload_n 1, 1) := by decide +kernel
theorem dX5_toldOf_10 : decode cX5_toldOf 10 = .ok (.iaload, 1) := by decide +kernel
theorem dX5_toldOf_11 : decode cX5_toldOf 11 = .ok (.goto 19, 3) := by decide +kernel
theorem dX5_toldOf_14 : decode cX5_toldOf 14 = .ok (.iload_n 1, 1) := by decide +kernel
theorem dX5_toldOf_15 : decode cX5_toldOf 15 = .ok (.iconst 3, 1) := by decide +kernel
theorem dX5_toldOf_16 : decode cX5_toldOf 16 = .ok (.if_icmp .ne 10, 3) := by decide +kernel
theorem dX5_toldOf_19 : decode cX5_toldOf 19 = .ok (.aload_n 0, 1) := by decide +kernel
theorem dX5_toldOf_20 : decode cX5_toldOf 20 = .ok (.getfield 137, 3) := by decide +kernel
theorem dX5_toldOf_23 : decode cX5_toldOf 23 = .ok (.goto 7, 3) := by decide +kernel
theorem dX5_toldOf_26 : decode cX5_toldOf 26 = .ok (.aload_n 0, 1) := by decide +kernel
theorem dX5_toldOf_27 : decode cX5_toldOf 27 = .ok (.getfield 101, 3) := by decide +kernel
theorem dX5_toldOf_30 : decode cX5_toldOf 30 = .ok (.ireturn, 1) := by decide +kernel
theorem dX5_told_0 : decode cX5_told 0 = .ok (.aload_n 0, 1) := by decide +kernel
theorem dX5_told_1 : decode cX5_told 1 = .ok (.iconst 0, 1) := by decide +kernel
theorem dX5_told_2 : decode cX5_told 2 = .ok (.putfield 37, 3) := by decide +kernel
theorem dX5_told_5 : decode cX5_told 5 = .ok (.iload_n 1, 1) := by decide +kernel
theorem dX5_told_6 : decode cX5_told 6 = .ok (.iconst 0, 1) := by decide +kernel
theorem dX5_told_7 : decode cX5_told 7 = .ok (.iconst 4, 1) := by decide +kernel
theorem dX5_told_8 : decode cX5_told 8 = .ok (.invokestatic 87, 3) := by decide +kernel
theorem dX5_told_11 : decode cX5_told 11 = .ok (.ifCond .eq 11, 3) := by decide +kernel
theorem dX5_told_14 : decode cX5_told 14 = .ok (.aload_n 0, 1) := by decide +kernel
theorem dX5_told_15 : decode cX5_told 15 = .ok (.iload_n 1, 1) := by decide +kernel
theorem dX5_told_16 : decode cX5_told 16 = .ok (.invokevirtual 174, 3) := by decide +kernel
theorem dX5_told_19 : decode cX5_told 19 = .ok (.goto 7, 3) := by decide +kernel
theorem dX5_told_22 : decode cX5_told 22 = .ok (.aload_n 0, 1) := by decide +kernel
theorem dX5_told_23 : decode cX5_told 23 = .ok (.invokevirtual 125, 3) := by decide +kernel
theorem dX5_told_26 : decode cX5_told 26 = .ok (.ireturn, 1) := by decide +kernel
theorem dX5_digest_0 : decode cX5_digest 0 = .ok (.aload_n 0, 1) := by decide +kernel
theorem dX5_digest_1 : decode cX5_digest 1 = .ok (.iconst 0, 1) := by decide +kernel
theorem dX5_digest_2 : decode cX5_digest 2 = .ok (.putfield 37, 3) := by decide +kernel
theorem dX5_digest_5 : decode cX5_digest 5 = .ok (.ldc2_w 177, 3) := by decide +kernel
theorem dX5_digest_8 : decode cX5_digest 8 = .ok (.lstore_n 1, 1) := by decide +kernel
theorem dX5_digest_9 : decode cX5_digest 9 = .ok (.iconst 0, 1) := by decide +kernel
theorem dX5_digest_10 : decode cX5_digest 10 = .ok (.istore_n 3, 1) := by decide +kernel
theorem dX5_digest_11 : decode cX5_digest 11 = .ok (.iload_n 3, 1) := by decide +kernel
theorem dX5_digest_12 : decode cX5_digest 12 = .ok (.iconst 5, 1) := by decide +kernel
theorem dX5_digest_13 : decode cX5_digest 13 = .ok (.if_icmp .ge 22, 3) := by decide +kernel
theorem dX5_digest_16 : decode cX5_digest 16 = .ok (.ldc2_w 179, 3) := by decide +kernel
theorem dX5_digest_19 : decode cX5_digest 19 = .ok (.lload_n 1, 1) := by decide +kernel
theorem dX5_digest_20 : decode cX5_digest 20 = .ok (.lmul, 1) := by decide +kernel
theorem dX5_digest_21 : decode cX5_digest 21 = .ok (.aload_n 0, 1) := by decide +kernel
theorem dX5_digest_22 : decode cX5_digest 22 = .ok (.iload_n 3, 1) := by decide +kernel
theorem dX5_digest_23 : decode cX5_digest 23 = .ok (.invokevirtual 174, 3) := by decide +kernel
theorem dX5_digest_26 : decode cX5_digest 26 = .ok (.i2l, 1) := by decide +kernel
theorem dX5_digest_27 : decode cX5_digest 27 = .ok (.ladd, 1) := by decide +kernel
theorem dX5_digest_28 : decode cX5_digest 28 = .ok (.lstore_n 1, 1) := by decide +kernel
theorem dX5_digest_29 : decode cX5_digest 29 = .ok (.iinc 3 1, 3) := by decide +kernel
theorem dX5_digest_32 : decode cX5_digest 32 = .ok (.goto (-21), 3) := by decide +kernel
theorem dX5_digest_35 : decode cX5_digest 35 = .ok (.iconst 0, 1) := by decide +kernel
theorem dX5_digest_36 : decode cX5_digest 36 = .ok (.istore_n 3, 1) := by decide +kernel
theorem dX5_digest_37 : decode cX5_digest 37 = .ok (.iload_n 3, 1) := by decide +kernel
theorem dX5_digest_38 : decode cX5_digest 38 = .ok (.bipush 7, 2) := by decide +kernel
theorem dX5_digest_40 : decode cX5_digest 40 = .ok (.if_icmp .ge 22, 3) := by decide +kernel
theorem dX5_digest_43 : decode cX5_digest 43 = .ok (.ldc2_w 179, 3) := by decide +kernel
theorem dX5_digest_46 : decode cX5_digest 46 = .ok (.lload_n 1, 1) := by decide +kernel
theorem dX5_digest_47 : decode cX5_digest 47 = .ok (.lmul, 1) := by decide +kernel
theorem dX5_digest_48 : decode cX5_digest 48 = .ok (.aload_n 0, 1) := by decide +kernel
theorem dX5_digest_49 : decode cX5_digest 49 = .ok (.iload_n 3, 1) := by decide +kernel
theorem dX5_digest_50 : decode cX5_digest 50 = .ok (.invokevirtual 134, 3) := by decide +kernel
theorem dX5_digest_53 : decode cX5_digest 53 = .ok (.i2l, 1) := by decide +kernel
theorem dX5_digest_54 : decode cX5_digest 54 = .ok (.ladd, 1) := by decide +kernel
theorem dX5_digest_55 : decode cX5_digest 55 = .ok (.lstore_n 1, 1) := by decide +kernel
theorem dX5_digest_56 : decode cX5_digest 56 = .ok (.iinc 3 1, 3) := by decide +kernel
theorem dX5_digest_59 : decode cX5_digest 59 = .ok (.goto (-22), 3) := by decide +kernel
theorem dX5_digest_62 : decode cX5_digest 62 = .ok (.iconst 0, 1) := by decide +kernel
theorem dX5_digest_63 : decode cX5_digest 63 = .ok (.istore_n 3, 1) := by decide +kernel
theorem dX5_digest_64 : decode cX5_digest 64 = .ok (.iload_n 3, 1) := by decide +kernel
theorem dX5_digest_65 : decode cX5_digest 65 = .ok (.aload_n 0, 1) := by decide +kernel
theorem dX5_digest_66 : decode cX5_digest 66 = .ok (.getfield 7, 3) := by decide +kernel
theorem dX5_digest_69 : decode cX5_digest 69 = .ok (.iconst 0, 1) := by decide +kernel
theorem dX5_digest_70 : decode cX5_digest 70 = .ok (.iaload, 1) := by decide +kernel
theorem dX5_digest_71 : decode cX5_digest 71 = .ok (.if_icmp .ge 56, 3) := by decide +kernel
theorem dX5_digest_74 : decode cX5_digest 74 = .ok (.ldc2_w 179, 3) := by decide +kernel
theorem dX5_digest_77 : decode cX5_digest 77 = .ok (.lload_n 1, 1) := by decide +kernel
theorem dX5_digest_78 : decode cX5_digest 78 = .ok (.lmul, 1) := by decide +kernel
theorem dX5_digest_79 : decode cX5_digest 79 = .ok (.aload_n 0, 1) := by decide +kernel
theorem dX5_digest_80 : decode cX5_digest 80 = .ok (.getfield 7, 3) := by decide +kernel
theorem dX5_digest_83 : decode cX5_digest 83 = .ok (.bipush 31, 2) := by decide +kernel
theorem dX5_digest_85 : decode cX5_digest 85 = .ok (.iload_n 3, 1) := by decide +kernel
theorem dX5_digest_86 : decode cX5_digest 86 = .ok (.iadd, 1) := by decide +kernel
theorem dX5_digest_87 : decode cX5_digest 87 = .ok (.iaload, 1) := by decide +kernel
theorem dX5_digest_88 : decode cX5_digest 88 = .ok (.i2l, 1) := by decide +kernel
theorem dX5_digest_89 : decode cX5_digest 89 = .ok (.ladd, 1) := by decide +kernel
theorem dX5_digest_90 : decode cX5_digest 90 = .ok (.lstore_n 1, 1) := by decide +kernel
theorem dX5_digest_91 : decode cX5_digest 91 = .ok (.aload_n 0, 1) := by decide +kernel
theorem dX5_digest_92 : decode cX5_digest 92 = .ok (.getfield 7, 3) := by decide +kernel
theorem dX5_digest_95 : decode cX5_digest 95 = .ok (.bipush 31, 2) := by decide +kernel
theorem dX5_digest_97 : decode cX5_digest 97 = .ok (.iload_n 3, 1) := by decide +kernel
theorem dX5_digest_98 : decode cX5_digest 98 = .ok (.iadd, 1) := by decide +kernel
theorem dX5_digest_99 : decode cX5_digest 99 = .ok (.iaload, 1) := by decide +kernel
theorem dX5_digest_100 : decode cX5_digest 100 = .ok (.iconst (-1), 1) := by decide +kernel
theorem dX5_digest_101 : decode cX5_digest 101 = .ok (.if_icmp .eq 20, 3) := by decide +kernel
theorem dX5_digest_104 : decode cX5_digest 104 = .ok (.ldc2_w 179, 3) := by decide +kernel
theorem dX5_digest_107 : decode cX5_digest 107 = .ok (.lload_n 1, 1) := by decide +kernel
theorem dX5_digest_108 : decode cX5_digest 108 = .ok (.lmul, 1) := by decide +kernel
theorem dX5_digest_109 : decode cX5_digest 109 = .ok (.aload_n 0, 1) := by decide +kernel
theorem dX5_digest_110 : decode cX5_digest 110 = .ok (.getfield 7, 3) := by decide +kernel
theorem dX5_digest_113 : decode cX5_digest 113 = .ok (.bipush 95, 2) := by decide +kernel
theorem dX5_digest_115 : decode cX5_digest 115 = .ok (.iload_n 3, 1) := by decide +kernel
theorem dX5_digest_116 : decode cX5_digest 116 = .ok (.iadd, 1) := by decide +kernel
theorem dX5_digest_117 : decode cX5_digest 117 = .ok (.iaload, 1) := by decide +kernel
theorem dX5_digest_118 : decode cX5_digest 118 = .ok (.i2l, 1) := by decide +kernel
theorem dX5_digest_119 : decode cX5_digest 119 = .ok (.ladd, 1) := by decide +kernel
theorem dX5_digest_120 : decode cX5_digest 120 = .ok (.lstore_n 1, 1) := by decide +kernel
theorem dX5_digest_121 : decode cX5_digest 121 = .ok (.iinc 3 1, 3) := by decide +kernel
theorem dX5_digest_124 : decode cX5_digest 124 = .ok (.goto (-60), 3) := by decide +kernel
theorem dX5_digest_127 : decode cX5_digest 127 = .ok (.iconst 0, 1) := by decide +kernel
theorem dX5_digest_128 : decode cX5_digest 128 = .ok (.istore_n 3, 1) := by decide +kernel
theorem dX5_digest_129 : decode cX5_digest 129 = .ok (.iload_n 3, 1) := by decide +kernel
theorem dX5_digest_130 : decode cX5_digest 130 = .ok (.aload_n 0, 1) := by decide +kernel
theorem dX5_digest_131 : decode cX5_digest 131 = .ok (.getfield 7, 3) := by decide +kernel
theorem dX5_digest_134 : decode cX5_digest 134 = .ok (.iconst 0, 1) := by decide +kernel
theorem dX5_digest_135 : decode cX5_digest 135 = .ok (.iaload, 1) := by decide +kernel
theorem dX5_digest_136 : decode cX5_digest 136 = .ok (.iconst 4, 1) := by decide +kernel
theorem dX5_digest_137 : decode cX5_digest 137 = .ok (.idiv, 1) := by decide +kernel
theorem dX5_digest_138 : decode cX5_digest 138 = .ok (.if_icmp .ge 22, 3) := by decide +kernel
theorem dX5_digest_141 : decode cX5_digest 141 = .ok (.ldc2_w 179, 3) := by decide +kernel
theorem dX5_digest_144 : decode cX5_digest 144 = .ok (.lload_n 1, 1) := by decide +kernel
theorem dX5_digest_145 : decode cX5_digest 145 = .ok (.lmul, 1) := by decide +kernel
theorem dX5_digest_146 : decode cX5_digest 146 = .ok (.aload_n 0, 1) := by decide +kernel
theorem dX5_digest_147 : decode cX5_digest 147 = .ok (.iload_n 3, 1) := by decide +kernel
theorem dX5_digest_148 : decode cX5_digest 148 = .ok (.invokevirtual 131, 3) := by decide +kernel
theorem dX5_digest_151 : decode cX5_digest 151 = .ok (.i2l, 1) := by decide +kernel
theorem dX5_digest_152 : decode cX5_digest 152 = .ok (.ladd, 1) := by decide +kernel
theorem dX5_digest_153 : decode cX5_digest 153 = .ok (.lstore_n 1, 1) := by decide +kernel
theorem dX5_digest_154 : decode cX5_digest 154 = .ok (.iinc 3 1, 3) := by decide +kernel
theorem dX5_digest_157 : decode cX5_digest 157 = .ok (.goto (-28), 3) := by decide +kernel
theorem dX5_digest_160 : decode cX5_digest 160 = .ok (.iconst 0, 1) := by decide +kernel
theorem dX5_digest_161 : decode cX5_digest 161 = .ok (.istore_n 3, 1) := by decide +kernel
theorem dX5_digest_162 : decode cX5_digest 162 = .ok (.iload_n 3, 1) := by decide +kernel
theorem dX5_digest_163 : decode cX5_digest 163 = .ok (.iconst 3, 1) := by decide +kernel
theorem dX5_digest_164 : decode cX5_digest 164 = .ok (.aload_n 0, 1) := by decide +kernel
theorem dX5_digest_165 : decode cX5_digest 165 = .ok (.getfield 7, 3) := by decide +kernel
theorem dX5_digest_168 : decode cX5_digest 168 = .ok (.bipush 6, 2) := by decide +kernel
theorem dX5_digest_170 : decode cX5_digest 170 = .ok (.iaload, 1) := by decide +kernel
theorem dX5_digest_171 : decode cX5_digest 171 = .ok (.imul, 1) := by decide +kernel
theorem dX5_digest_172 : decode cX5_digest 172 = .ok (.if_icmp .ge 26, 3) := by decide +kernel
theorem dX5_digest_175 : decode cX5_digest 175 = .ok (.ldc2_w 179, 3) := by decide +kernel
theorem dX5_digest_178 : decode cX5_digest 178 = .ok (.lload_n 1, 1) := by decide +kernel
theorem dX5_digest_179 : decode cX5_digest 179 = .ok (.lmul, 1) := by decide +kernel
theorem dX5_digest_180 : decode cX5_digest 180 = .ok (.aload_n 0, 1) := by decide +kernel
theorem dX5_digest_181 : decode cX5_digest 181 = .ok (.getfield 7, 3) := by decide +kernel
theorem dX5_digest_184 : decode cX5_digest 184 = .ok (.bipush 7, 2) := by decide +kernel
theorem dX5_digest_186 : decode cX5_digest 186 = .ok (.iload_n 3, 1) := by decide +kernel
theorem dX5_digest_187 : decode cX5_digest 187 = .ok (.iadd, 1) := by decide +kernel
theorem dX5_digest_188 : decode cX5_digest 188 = .ok (.iaload, 1) := by decide +kernel
theorem dX5_digest_189 : decode cX5_digest 189 = .ok (.i2l, 1) := by decide +kernel
theorem dX5_digest_190 : decode cX5_digest 190 = .ok (.ladd, 1) := by decide +kernel
theorem dX5_digest_191 : decode cX5_digest 191 = .ok (.lstore_n 1, 1) := by decide +kernel
theorem dX5_digest_192 : decode cX5_digest 192 = .ok (.iinc 3 1, 3) := by decide +kernel
theorem dX5_digest_195 : decode cX5_digest 195 = .ok (.goto (-33), 3) := by decide +kernel
theorem dX5_digest_198 : decode cX5_digest 198 = .ok (.lload_n 1, 1) := by decide +kernel
theorem dX5_digest_199 : decode cX5_digest 199 = .ok (.lreturn, 1) := by decide +kernel
theorem dJ9_min_7cf53_0 : decode cJ9_min_7cf53 0 = .ok (.iload_n 0, 1) := by decide +kernel
theorem dJ9_min_7cf53_1 : decode cJ9_min_7cf53 1 = .ok (.iload_n 1, 1) := by decide +kernel
theorem dJ9_min_7cf53_2 : decode cJ9_min_7cf53 2 = .ok (.if_icmp .gt 7, 3) := by decide +kernel
theorem dJ9_min_7cf53_5 : decode cJ9_min_7cf53 5 = .ok (.iload_n 0, 1) := by decide +kernel
theorem dJ9_min_7cf53_6 : decode cJ9_min_7cf53 6 = .ok (.goto 4, 3) := by decide +kernel
theorem dJ9_min_7cf53_9 : decode cJ9_min_7cf53 9 = .ok (.iload_n 1, 1) := by decide +kernel
theorem dJ9_min_7cf53_10 : decode cJ9_min_7cf53 10 = .ok (.ireturn, 1) := by decide +kernel
theorem dL_law_0 : decode cL_law 0 = .ok (.new 7, 3) := by decide +kernel
theorem dL_law_3 : decode cL_law 3 = .ok (.dup, 1) := by decide +kernel
theorem dL_law_4 : decode cL_law 4 = .ok (.invokespecial 9, 3) := by decide +kernel
theorem dL_law_7 : decode cL_law 7 = .ok (.astore_n 1, 1) := by decide +kernel
theorem dL_law_8 : decode cL_law 8 = .ok (.new 10, 3) := by decide +kernel
theorem dL_law_11 : decode cL_law 11 = .ok (.dup, 1) := by decide +kernel
theorem dL_law_12 : decode cL_law 12 = .ok (.invokespecial 12, 3) := by decide +kernel
theorem dL_law_15 : decode cL_law 15 = .ok (.astore_n 2, 1) := by decide +kernel
theorem dL_law_16 : decode cL_law 16 = .ok (.iconst 0, 1) := by decide +kernel
theorem dL_law_17 : decode cL_law 17 = .ok (.istore_n 3, 1) := by decide +kernel
theorem dL_law_18 : decode cL_law 18 = .ok (.iload_n 3, 1) := by decide +kernel
theorem dL_law_19 : decode cL_law 19 = .ok (.aload_n 0, 1) := by decide +kernel
theorem dL_law_20 : decode cL_law 20 = .ok (.arraylength, 1) := by decide +kernel
theorem dL_law_21 : decode cL_law 21 = .ok (.iconst 4, 1) := by decide +kernel
theorem dL_law_22 : decode cL_law 22 = .ok (.isub, 1) := by decide +kernel
theorem dL_law_23 : decode cL_law 23 = .ok (.if_icmp .gt 619, 3) := by decide +kernel
theorem dL_law_26 : decode cL_law 26 = .ok (.aload_n 0, 1) := by decide +kernel
theorem dL_law_27 : decode cL_law 27 = .ok (.iload_n 3, 1) := by decide +kernel
theorem dL_law_28 : decode cL_law 28 = .ok (.iaload, 1) := by decide +kernel
theorem dL_law_29 : decode cL_law 29 = .ok (.bipush 31, 2) := by decide +kernel
theorem dL_law_31 : decode cL_law 31 = .ok (.iand, 1) := by decide +kernel
theorem dL_law_32 : decode cL_law 32 = .ok (.tableswitch 604 0 20 #[100, 133, 156, 189, 212, 225, 248, 271, 294, 317, 340, 383, 406, 449, 472, 505, 528, 541, 554, 567, 590], 100) := by decide +kernel
theorem dL_law_132 : decode cL_law 132 = .ok (.aload_n 1, 1) := by decide +kernel
theorem dL_law_133 : decode cL_law 133 = .ok (.aload_n 0, 1) := by decide +kernel
theorem dL_law_134 : decode cL_law 134 = .ok (.iload_n 3, 1) := by decide +kernel
theorem dL_law_135 : decode cL_law 135 = .ok (.iconst 1, 1) := by decide +kernel
theorem dL_law_136 : decode cL_law 136 = .ok (.iadd, 1) := by decide +kernel
theorem dL_law_137 : decode cL_law 137 = .ok (.iaload, 1) := by decide +kernel
theorem dL_law_138 : decode cL_law 138 = .ok (.aload_n 0, 1) := by decide +kernel
theorem dL_law_139 : decode cL_law 139 = .ok (.iload_n 3, 1) := by decide +kernel
theorem dL_law_140 : decode cL_law 140 = .ok (.iconst 2, 1) := by decide +kernel
theorem dL_law_141 : decode cL_law 141 = .ok (.iadd, 1) := by decide +kernel
theorem dL_law_142 : decode cL_law 142 = .ok (.iaload, 1) := by decide +kernel
theorem dL_law_143 : decode cL_law 143 = .ok (.invokevirtual 13, 3) := by decide +kernel
theorem dL_law_146 : decode cL_law 146 = .ok (.aload_n 2, 1) := by decide +kernel
theorem dL_law_147 : decode cL_law 147 = .ok (.aload_n 0, 1) := by decide +kernel
theorem dL_law_148 : decode cL_law 148 = .ok (.iload_n 3, 1) := by decide +kernel
theorem dL_law_149 : decode cL_law 149 = .ok (.iconst 1, 1) := by decide +kernel
theorem dL_law_150 : decode cL_law 150 = .ok (.iadd, 1) := by decide +kernel
theorem dL_law_151 : decode cL_law 151 = .ok (.iaload, 1) := by decide +kernel
theorem dL_law_152 : decode cL_law 152 = .ok (.aload_n 0, 1) := by decide +kernel
theorem dL_law_153 : decode cL_law 153 = .ok (.iload_n 3, 1) := by decide +kernel
theorem dL_law_154 : decode cL_law 154 = .ok (.iconst 2, 1) := by decide +kernel
theorem dL_law_155 : decode cL_law 155 = .ok (.iadd, 1) := by decide +kernel
theorem dL_law_156 : decode cL_law 156 = .ok (.iaload, 1) := by decide +kernel
theorem dL_law_157 : decode cL_law 157 = .ok (.invokevirtual 17, 3) := by decide +kernel
theorem dL_law_160 : decode cL_law 160 = .ok (.if_icmp .eq 476, 3) := by decide +kernel
theorem dL_law_163 : decode cL_law 163 = .ok (.iconst 0, 1) := by decide +kernel
theorem dL_law_164 : decode cL_law 164 = .ok (.ireturn, 1) := by decide +kernel
theorem dL_law_165 : decode cL_law 165 = .ok (.aload_n 1, 1) := by decide +kernel
theorem dL_law_166 : decode cL_law 166 = .ok (.aload_n 0, 1) := by decide +kernel
theorem dL_law_167 : decode cL_law 167 = .ok (.iload_n 3, 1) := by decide +kernel
theorem dL_law_168 : decode cL_law 168 = .ok (.iconst 1, 1) := by decide +kernel
theorem dL_law_169 : decode cL_law 169 = .ok (.iadd, 1) := by decide +kernel
theorem dL_law_170 : decode cL_law 170 = .ok (.iaload, 1) := by decide +kernel
theorem dL_law_171 : decode cL_law 171 = .ok (.invokevirtual 18, 3) := by decide +kernel
theorem dL_law_174 : decode cL_law 174 = .ok (.aload_n 2, 1) := by decide +kernel
theorem dL_law_175 : decode cL_law 175 = .ok (.aload_n 0, 1) := by decide +kernel
theorem dL_law_176 : decode cL_law 176 = .ok (.iload_n 3, 1) := by decide +kernel
theorem dL_law_177 : decode cL_law 177 = .ok (.iconst 1, 1) := by decide +kernel
theorem dL_law_178 : decode cL_law 178 = .ok (.iadd, 1) := by decide +kernel
theorem dL_law_179 : decode cL_law 179 = .ok (.iaload, 1) := by decide +kernel
theorem dL_law_180 : decode cL_law 180 = .ok (.invokevirtual 22, 3) := by decide +kernel
theorem dL_law_183 : decode cL_law 183 = .ok (.if_icmp .eq 453, 3) := by decide +kernel
theorem dL_law_186 : decode cL_law 186 = .ok (.iconst 0, 1) := by decide +kernel
theorem dL_law_187 : decode cL_law 187 = .ok (.ireturn, 1) := by decide +kernel
theorem dL_law_188 : decode cL_law 188 = .ok (.aload_n 1, 1) := by decide +kernel
theorem dL_law_189 : decode cL_law 189 = .ok (.aload_n 0, 1) := by decide +kernel
theorem dL_law_190 : decode cL_law 190 = .ok (.iload_n 3, 1) := by decide +kernel
theorem dL_law_191 : decode cL_law 191 = .ok (.iconst 1, 1) := by decide +kernel
theorem dL_law_192 : decode cL_law 192 = .ok (.iadd, 1) := by decide +kernel
theorem dL_law_193 : decode cL_law 193 = .ok (.iaload, 1) := by decide +kernel
theorem dL_law_194 : decode cL_law 194 = .ok (.aload_n 0, 1) := by decide +kernel
theorem dL_law_195 : decode cL_law 195 = .ok (.iload_n 3, 1) := by decide +kernel
theorem dL_law_196 : decode cL_law 196 = .ok (.iconst 2, 1) := by decide +kernel
theorem dL_law_197 : decode cL_law 197 = .ok (.iadd, 1) := by decide +kernel
theorem dL_law_198 : decode cL_law 198 = .ok (.iaload, 1) := by decide +kernel
theorem dL_law_199 : decode cL_law 199 = .ok (.invokevirtual 23, 3) := by decide +kernel
theorem dL_law_202 : decode cL_law 202 = .ok (.aload_n 2, 1) := by decide +kernel
theorem dL_law_203 : decode cL_law 203 = .ok (.aload_n 0, 1) := by decide +kernel
theorem dL_law_204 : decode cL_law 204 = .ok (.iload_n 3, 1) := by decide +kernel
theorem dL_law_205 : decode cL_law 205 = .ok (.iconst 1, 1) := by decide +kernel
theorem dL_law_206 : decode cL_law 206 = .ok (.iadd, 1) := by decide +kernel
theorem dL_law_207 : decode cL_law 207 = .ok (.iaload, 1) := by decide +kernel
theorem dL_law_208 : decode cL_law 208 = .ok (.aload_n 0, 1) := by decide +kernel
theorem dL_law_209 : decode cL_law 209 = .ok (.iload_n 3, 1) := by decide +kernel
theorem dL_law_210 : decode cL_law 210 = .ok (.iconst 2, 1) := by decide +kernel
theorem dL_law_211 : decode cL_law 211 = .ok (.iadd, 1) := by decide +kernel
theorem dL_law_212 : decode cL_law 212 = .ok (.iaload, 1) := by decide +kernel
theorem dL_law_213 : decode cL_law 213 = .ok (.invokevirtual 26, 3) := by decide +kernel
theorem dL_law_216 : decode cL_law 216 = .ok (.if_icmp .eq 420, 3) := by decide +kernel
theorem dL_law_219 : decode cL_law 219 = .ok (.iconst 0, 1) := by decide +kernel
theorem dL_law_220 : decode cL_law 220 = .ok (.ireturn, 1) := by decide +kernel
theorem dL_law_221 : decode cL_law 221 = .ok (.aload_n 1, 1) := by decide +kernel
theorem dL_law_222 : decode cL_law 222 = .ok (.aload_n 0, 1) := by decide +kernel
theorem dL_law_223 : decode cL_law 223 = .ok (.iload_n 3, 1) := by decide +kernel
theorem dL_law_224 : decode cL_law 224 = .ok (.iconst 1, 1) := by decide +kernel
theorem dL_law_225 : decode cL_law 225 = .ok (.iadd, 1) := by decide +kernel
theorem dL_law_226 : decode cL_law 226 = .ok (.iaload, 1) := by decide +kernel
theorem dL_law_227 : decode cL_law 227 = .ok (.invokevirtual 27, 3) := by decide +kernel
theorem dL_law_230 : decode cL_law 230 = .ok (.aload_n 2, 1) := by decide +kernel
theorem dL_law_231 : decode cL_law 231 = .ok (.aload_n 0, 1) := by decide +kernel
theorem dL_law_232 : decode cL_law 232 = .ok (.iload_n 3, 1) := by decide +kernel
theorem dL_law_233 : decode cL_law 233 = .ok (.iconst 1, 1) := by decide +kernel
theorem dL_law_234 : decode cL_law 234 = .ok (.iadd, 1) := by decide +kernel
theorem dL_law_235 : decode cL_law 235 = .ok (.iaload, 1) := by decide +kernel
theorem dL_law_236 : decode cL_law 236 = .ok (.invokevirtual 30, 3) := by decide +kernel
theorem dL_law_239 : decode cL_law 239 = .ok (.if_icmp .eq 397, 3) := by decide +kernel
theorem dL_law_242 : decode cL_law 242 = .ok (.iconst 0, 1) := by decide +kernel
theorem dL_law_243 : decode cL_law 243 = .ok (.ireturn, 1) := by decide +kernel
theorem dL_law_244 : decode cL_law 244 = .ok (.aload_n 1, 1) := by decide +kernel
theorem dL_law_245 : decode cL_law 245 = .ok (.invokevirtual 31, 3) := by decide +kernel
theorem dL_law_248 : decode cL_law 248 = .ok (.aload_n 2, 1) := by decide +kernel
theorem dL_law_249 : decode cL_law 249 = .ok (.invokevirtual 35, 3) := by decide +kernel
theorem dL_law_252 : decode cL_law 252 = .ok (.if_icmp .eq 384, 3) := by decide +kernel
theorem dL_law_255 : decode cL_law 255 = .ok (.iconst 0, 1) := by decide +kernel
theorem dL_law_256 : decode cL_law 256 = .ok (.ireturn, 1) := by decide +kernel
theorem dL_law_257 : decode cL_law 257 = .ok (.aload_n 1, 1) := by decide +kernel
theorem dL_law_258 : decode cL_law 258 = .ok (.aload_n 0, 1) := by decide +kernel
theorem dL_law_259 : decode cL_law 259 = .ok (.iload_n 3, 1) := by decide +kernel
theorem dL_law_260 : decode cL_law 260 = .ok (.iconst 1, 1) := by decide +kernel
theorem dL_law_261 : decode cL_law 261 = .ok (.iadd, 1) := by decide +kernel
theorem dL_law_262 : decode cL_law 262 = .ok (.iaload, 1) := by decide +kernel
theorem dL_law_263 : decode cL_law 263 = .ok (.invokevirtual 36, 3) := by decide +kernel
theorem dL_law_266 : decode cL_law 266 = .ok (.aload_n 2, 1) := by decide +kernel
theorem dL_law_267 : decode cL_law 267 = .ok (.aload_n 0, 1) := by decide +kernel
theorem dL_law_268 : decode cL_law 268 = .ok (.iload_n 3, 1) := by decide +kernel
theorem dL_law_269 : decode cL_law 269 = .ok (.iconst 1, 1) := by decide +kernel
theorem dL_law_270 : decode cL_law 270 = .ok (.iadd, 1) := by decide +kernel
theorem dL_law_271 : decode cL_law 271 = .ok (.iaload, 1) := by decide +kernel
theorem dL_law_272 : decode cL_law 272 = .ok (.invokevirtual 39, 3) := by decide +kernel
theorem dL_law_275 : decode cL_law 275 = .ok (.if_icmp .eq 361, 3) := by decide +kernel
theorem dL_law_278 : decode cL_law 278 = .ok (.iconst 0, 1) := by decide +kernel
theorem dL_law_279 : decode cL_law 279 = .ok (.ireturn, 1) := by decide +kernel
theorem dL_law_280 : decode cL_law 280 = .ok (.aload_n 1, 1) := by decide +kernel
theorem dL_law_281 : decode cL_law 281 = .ok (.aload_n 0, 1) := by decide +kernel
theorem dL_law_282 : decode cL_law 282 = .ok (.iload_n 3, 1) := by decide +kernel
theorem dL_law_283 : decode cL_law 283 = .ok (.iconst 1, 1) := by decide +kernel
theorem dL_law_284 : decode cL_law 284 = .ok (.iadd, 1) := by decide +kernel
theorem dL_law_285 : decode cL_law 285 = .ok (.iaload, 1) := by decide +kernel
theorem dL_law_286 : decode cL_law 286 = .ok (.invokevirtual 40, 3) := by decide +kernel
theorem dL_law_289 : decode cL_law 289 = .ok (.aload_n 2, 1) := by decide +kernel
theorem dL_law_290 : decode cL_law 290 = .ok (.aload_n 0, 1) := by decide +kernel
theorem dL_law_291 : decode cL_law 291 = .ok (.iload_n 3, 1) := by decide +kernel
theorem dL_law_292 : decode cL_law 292 = .ok (.iconst 1, 1) := by decide +kernel
theorem dL_law_293 : decode cL_law 293 = .ok (.iadd, 1) := by decide +kernel
theorem dL_law_294 : decode cL_law 294 = .ok (.iaload, 1) := by decide +kernel
theorem dL_law_295 : decode cL_law 295 = .ok (.invokevirtual 43, 3) := by decide +kernel
theorem dL_law_298 : decode cL_law 298 = .ok (.if_icmp .eq 338, 3) := by decide +kernel
theorem dL_law_301 : decode cL_law 301 = .ok (.iconst 0, 1) := by decide +kernel
theorem dL_law_302 : decode cL_law 302 = .ok (.ireturn, 1) := by decide +kernel
theorem dL_law_303 : decode cL_law 303 = .ok (.aload_n 1, 1) := by decide +kernel
theorem dL_law_304 : decode cL_law 304 = .ok (.aload_n 0, 1) := by decide +kernel
theorem dL_law_305 : decode cL_law 305 = .ok (.iload_n 3, 1) := by decide +kernel
theorem dL_law_306 : decode cL_law 306 = .ok (.iconst 1, 1) := by decide +kernel
theorem dL_law_307 : decode cL_law 307 = .ok (.iadd, 1) := by decide +kernel
theorem dL_law_308 : decode cL_law 308 = .ok (.iaload, 1) := by decide +kernel
theorem dL_law_309 : decode cL_law 309 = .ok (.invokevirtual 44, 3) := by decide +kernel
theorem dL_law_312 : decode cL_law 312 = .ok (.aload_n 2, 1) := by decide +kernel
theorem dL_law_313 : decode cL_law 313 = .ok (.aload_n 0, 1) := by decide +kernel
theorem dL_law_314 : decode cL_law 314 = .ok (.iload_n 3, 1) := by decide +kernel
theorem dL_law_315 : decode cL_law 315 = .ok (.iconst 1, 1) := by decide +kernel
theorem dL_law_316 : decode cL_law 316 = .ok (.iadd, 1) := by decide +kernel
theorem dL_law_317 : decode cL_law 317 = .ok (.iaload, 1) := by decide +kernel
theorem dL_law_318 : decode cL_law 318 = .ok (.invokevirtual 47, 3) := by decide +kernel
theorem dL_law_321 : decode cL_law 321 = .ok (.if_icmp .eq 315, 3) := by decide +kernel
theorem dL_law_324 : decode cL_law 324 = .ok (.iconst 0, 1) := by decide +kernel
theorem dL_law_325 : decode cL_law 325 = .ok (.ireturn, 1) := by decide +kernel
theorem dL_law_326 : decode cL_law 326 = .ok (.aload_n 1, 1) := by decide +kernel
theorem dL_law_327 : decode cL_law 327 = .ok (.aload_n 0, 1) := by decide +kernel
theorem dL_law_328 : decode cL_law 328 = .ok (.iload_n 3, 1) := by decide +kernel
theorem dL_law_329 : decode cL_law 329 = .ok (.iconst 1, 1) := by decide +kernel
theorem dL_law_330 : decode cL_law 330 = .ok (.iadd, 1) := by decide +kernel
theorem dL_law_331 : decode cL_law 331 = .ok (.iaload, 1) := by decide +kernel
theorem dL_law_332 : decode cL_law 332 = .ok (.invokevirtual 48, 3) := by decide +kernel
theorem dL_law_335 : decode cL_law 335 = .ok (.aload_n 2, 1) := by decide +kernel
theorem dL_law_336 : decode cL_law 336 = .ok (.aload_n 0, 1) := by decide +kernel
theorem dL_law_337 : decode cL_law 337 = .ok (.iload_n 3, 1) := by decide +kernel
theorem dL_law_338 : decode cL_law 338 = .ok (.iconst 1, 1) := by decide +kernel
theorem dL_law_339 : decode cL_law 339 = .ok (.iadd, 1) := by decide +kernel
theorem dL_law_340 : decode cL_law 340 = .ok (.iaload, 1) := by decide +kernel
theorem dL_law_341 : decode cL_law 341 = .ok (.invokevirtual 51, 3) := by decide +kernel
theorem dL_law_344 : decode cL_law 344 = .ok (.if_icmp .eq 292, 3) := by decide +kernel
theorem dL_law_347 : decode cL_law 347 = .ok (.iconst 0, 1) := by decide +kernel
theorem dL_law_348 : decode cL_law 348 = .ok (.ireturn, 1) := by decide +kernel
theorem dL_law_349 : decode cL_law 349 = .ok (.aload_n 1, 1) := by decide +kernel
theorem dL_law_350 : decode cL_law 350 = .ok (.aload_n 0, 1) := by decide +kernel
theorem dL_law_351 : decode cL_law 351 = .ok (.iload_n 3, 1) := by decide +kernel
theorem dL_law_352 : decode cL_law 352 = .ok (.iconst 1, 1) := by decide +kernel
theorem dL_law_353 : decode cL_law 353 = .ok (.iadd, 1) := by decide +kernel
theorem dL_law_354 : decode cL_law 354 = .ok (.iaload, 1) := by decide +kernel
theorem dL_law_355 : decode cL_law 355 = .ok (.invokevirtual 52, 3) := by decide +kernel
theorem dL_law_358 : decode cL_law 358 = .ok (.aload_n 2, 1) := by decide +kernel
theorem dL_law_359 : decode cL_law 359 = .ok (.aload_n 0, 1) := by decide +kernel
theorem dL_law_360 : decode cL_law 360 = .ok (.iload_n 3, 1) := by decide +kernel
theorem dL_law_361 : decode cL_law 361 = .ok (.iconst 1, 1) := by decide +kernel
theorem dL_law_362 : decode cL_law 362 = .ok (.iadd, 1) := by decide +kernel
theorem dL_law_363 : decode cL_law 363 = .ok (.iaload, 1) := by decide +kernel
theorem dL_law_364 : decode cL_law 364 = .ok (.invokevirtual 55, 3) := by decide +kernel
theorem dL_law_367 : decode cL_law 367 = .ok (.if_icmp .eq 269, 3) := by decide +kernel
theorem dL_law_370 : decode cL_law 370 = .ok (.iconst 0, 1) := by decide +kernel
theorem dL_law_371 : decode cL_law 371 = .ok (.ireturn, 1) := by decide +kernel
theorem dL_law_372 : decode cL_law 372 = .ok (.aload_n 1, 1) := by decide +kernel
theorem dL_law_373 : decode cL_law 373 = .ok (.aload_n 0, 1) := by decide +kernel
theorem dL_law_374 : decode cL_law 374 = .ok (.iload_n 3, 1) := by decide +kernel
theorem dL_law_375 : decode cL_law 375 = .ok (.iconst 1, 1) := by decide +kernel
theorem dL_law_376 : decode cL_law 376 = .ok (.iadd, 1) := by decide +kernel
theorem dL_law_377 : decode cL_law 377 = .ok (.iaload, 1) := by decide +kernel
theorem dL_law_378 : decode cL_law 378 = .ok (.aload_n 0, 1) := by decide +kernel
theorem dL_law_379 : decode cL_law 379 = .ok (.iload_n 3, 1) := by decide +kernel
theorem dL_law_380 : decode cL_law 380 = .ok (.iconst 2, 1) := by decide +kernel
theorem dL_law_381 : decode cL_law 381 = .ok (.iadd, 1) := by decide +kernel
theorem dL_law_382 : decode cL_law 382 = .ok (.iaload, 1) := by decide +kernel
theorem dL_law_383 : decode cL_law 383 = .ok (.aload_n 0, 1) := by decide +kernel
theorem dL_law_384 : decode cL_law 384 = .ok (.iload_n 3, 1) := by decide +kernel
theorem dL_law_385 : decode cL_law 385 = .ok (.iconst 3, 1) := by decide +kernel
theorem dL_law_386 : decode cL_law 386 = .ok (.iadd, 1) := by decide +kernel
theorem dL_law_387 : decode cL_law 387 = .ok (.iaload, 1) := by decide +kernel
theorem dL_law_388 : decode cL_law 388 = .ok (.invokevirtual 56, 3) := by decide +kernel
theorem dL_law_391 : decode cL_law 391 = .ok (.aload_n 2, 1) := by decide +kernel
theorem dL_law_392 : decode cL_law 392 = .ok (.aload_n 0, 1) := by decide +kernel
theorem dL_law_393 : decode cL_law 393 = .ok (.iload_n 3, 1) := by decide +kernel
theorem dL_law_394 : decode cL_law 394 = .ok (.iconst 1, 1) := by decide +kernel
theorem dL_law_395 : decode cL_law 395 = .ok (.iadd, 1) := by decide +kernel
theorem dL_law_396 : decode cL_law 396 = .ok (.iaload, 1) := by decide +kernel
theorem dL_law_397 : decode cL_law 397 = .ok (.aload_n 0, 1) := by decide +kernel
theorem dL_law_398 : decode cL_law 398 = .ok (.iload_n 3, 1) := by decide +kernel
theorem dL_law_399 : decode cL_law 399 = .ok (.iconst 2, 1) := by decide +kernel
theorem dL_law_400 : decode cL_law 400 = .ok (.iadd, 1) := by decide +kernel
theorem dL_law_401 : decode cL_law 401 = .ok (.iaload, 1) := by decide +kernel
theorem dL_law_402 : decode cL_law 402 = .ok (.aload_n 0, 1) := by decide +kernel
theorem dL_law_403 : decode cL_law 403 = .ok (.iload_n 3, 1) := by decide +kernel
theorem dL_law_404 : decode cL_law 404 = .ok (.iconst 3, 1) := by decide +kernel
theorem dL_law_405 : decode cL_law 405 = .ok (.iadd, 1) := by decide +kernel
theorem dL_law_406 : decode cL_law 406 = .ok (.iaload, 1) := by decide +kernel
theorem dL_law_407 : decode cL_law 407 = .ok (.invokevirtual 60, 3) := by decide +kernel
theorem dL_law_410 : decode cL_law 410 = .ok (.if_icmp .eq 226, 3) := by decide +kernel
theorem dL_law_413 : decode cL_law 413 = .ok (.iconst 0, 1) := by decide +kernel
theorem dL_law_414 : decode cL_law 414 = .ok (.ireturn, 1) := by decide +kernel
theorem dL_law_415 : decode cL_law 415 = .ok (.aload_n 1, 1) := by decide +kernel
theorem dL_law_416 : decode cL_law 416 = .ok (.aload_n 0, 1) := by decide +kernel
theorem dL_law_417 : decode cL_law 417 = .ok (.iload_n 3, 1) := by decide +kernel
theorem dL_law_418 : decode cL_law 418 = .ok (.iconst 1, 1) := by decide +kernel
theorem dL_law_419 : decode cL_law 419 = .ok (.iadd, 1) := by decide +kernel
theorem dL_law_420 : decode cL_law 420 = .ok (.iaload, 1) := by decide +kernel
theorem dL_law_421 : decode cL_law 421 = .ok (.invokevirtual 61, 3) := by decide +kernel
theorem dL_law_424 : decode cL_law 424 = .ok (.aload_n 2, 1) := by decide +kernel
theorem dL_law_425 : decode cL_law 425 = .ok (.aload_n 0, 1) := by decide +kernel
theorem dL_law_426 : decode cL_law 426 = .ok (.iload_n 3, 1) := by decide +kernel
theorem dL_law_427 : decode cL_law 427 = .ok (.iconst 1, 1) := by decide +kernel
theorem dL_law_428 : decode cL_law 428 = .ok (.iadd, 1) := by decide +kernel
theorem dL_law_429 : decode cL_law 429 = .ok (.iaload, 1) := by decide +kernel
theorem dL_law_430 : decode cL_law 430 = .ok (.invokevirtual 64, 3) := by decide +kernel
theorem dL_law_433 : decode cL_law 433 = .ok (.if_icmp .eq 203, 3) := by decide +kernel
theorem dL_law_436 : decode cL_law 436 = .ok (.iconst 0, 1) := by decide +kernel
theorem dL_law_437 : decode cL_law 437 = .ok (.ireturn, 1) := by decide +kernel
theorem dL_law_438 : decode cL_law 438 = .ok (.aload_n 1, 1) := by decide +kernel
theorem dL_law_439 : decode cL_law 439 = .ok (.aload_n 0, 1) := by decide +kernel
theorem dL_law_440 : decode cL_law 440 = .ok (.iload_n 3, 1) := by decide +kernel
theorem dL_law_441 : decode cL_law 441 = .ok (.iconst 1, 1) := by decide +kernel
theorem dL_law_442 : decode cL_law 442 = .ok (.iadd, 1) := by decide +kernel
theorem dL_law_443 : decode cL_law 443 = .ok (.iaload, 1) := by decide +kernel
theorem dL_law_444 : decode cL_law 444 = .ok (.aload_n 0, 1) := by decide +kernel
theorem dL_law_445 : decode cL_law 445 = .ok (.iload_n 3, 1) := by decide +kernel
theorem dL_law_446 : decode cL_law 446 = .ok (.iconst 2, 1) := by decide +kernel
theorem dL_law_447 : decode cL_law 447 = .ok (.iadd, 1) := by decide +kernel
theorem dL_law_448 : decode cL_law 448 = .ok (.iaload, 1) := by decide +kernel
theorem dL_law_449 : decode cL_law 449 = .ok (.aload_n 0, 1) := by decide +kernel
theorem dL_law_450 : decode cL_law 450 = .ok (.iload_n 3, 1) := by decide +kernel
theorem dL_law_451 : decode cL_law 451 = .ok (.iconst 3, 1) := by decide +kernel
theorem dL_law_452 : decode cL_law 452 = .ok (.iadd, 1) := by decide +kernel
theorem dL_law_453 : decode cL_law 453 = .ok (.iaload, 1) := by decide +kernel
theorem dL_law_454 : decode cL_law 454 = .ok (.invokevirtual 65, 3) := by decide +kernel
theorem dL_law_457 : decode cL_law 457 = .ok (.aload_n 2, 1) := by decide +kernel
theorem dL_law_458 : decode cL_law 458 = .ok (.aload_n 0, 1) := by decide +kernel
theorem dL_law_459 : decode cL_law 459 = .ok (.iload_n 3, 1) := by decide +kernel
theorem dL_law_460 : decode cL_law 460 = .ok (.iconst 1, 1) := by decide +kernel
theorem dL_law_461 : decode cL_law 461 = .ok (.iadd, 1) := by decide +kernel
theorem dL_law_462 : decode cL_law 462 = .ok (.iaload, 1) := by decide +kernel
theorem dL_law_463 : decode cL_law 463 = .ok (.aload_n 0, 1) := by decide +kernel
theorem dL_law_464 : decode cL_law 464 = .ok (.iload_n 3, 1) := by decide +kernel
theorem dL_law_465 : decode cL_law 465 = .ok (.iconst 2, 1) := by decide +kernel
theorem dL_law_466 : decode cL_law 466 = .ok (.iadd, 1) := by decide +kernel
theorem dL_law_467 : decode cL_law 467 = .ok (.iaload, 1) := by decide +kernel
theorem dL_law_468 : decode cL_law 468 = .ok (.aload_n 0, 1) := by decide +kernel
theorem dL_law_469 : decode cL_law 469 = .ok (.iload_n 3, 1) := by decide +kernel
theorem dL_law_470 : decode cL_law 470 = .ok (.iconst 3, 1) := by decide +kernel
theorem dL_law_471 : decode cL_law 471 = .ok (.iadd, 1) := by decide +kernel
theorem dL_law_472 : decode cL_law 472 = .ok (.iaload, 1) := by decide +kernel
theorem dL_law_473 : decode cL_law 473 = .ok (.invokevirtual 68, 3) := by decide +kernel
theorem dL_law_476 : decode cL_law 476 = .ok (.if_icmp .eq 160, 3) := by decide +kernel
theorem dL_law_479 : decode cL_law 479 = .ok (.iconst 0, 1) := by decide +kernel
theorem dL_law_480 : decode cL_law 480 = .ok (.ireturn, 1) := by decide +kernel
theorem dL_law_481 : decode cL_law 481 = .ok (.aload_n 1, 1) := by decide +kernel
theorem dL_law_482 : decode cL_law 482 = .ok (.aload_n 0, 1) := by decide +kernel
theorem dL_law_483 : decode cL_law 483 = .ok (.iload_n 3, 1) := by decide +kernel
theorem dL_law_484 : decode cL_law 484 = .ok (.iconst 1, 1) := by decide +kernel
theorem dL_law_485 : decode cL_law 485 = .ok (.iadd, 1) := by decide +kernel
theorem dL_law_486 : decode cL_law 486 = .ok (.iaload, 1) := by decide +kernel
theorem dL_law_487 : decode cL_law 487 = .ok (.invokevirtual 69, 3) := by decide +kernel
theorem dL_law_490 : decode cL_law 490 = .ok (.aload_n 2, 1) := by decide +kernel
theorem dL_law_491 : decode cL_law 491 = .ok (.aload_n 0, 1) := by decide +kernel
theorem dL_law_492 : decode cL_law 492 = .ok (.iload_n 3, 1) := by decide +kernel
theorem dL_law_493 : decode cL_law 493 = .ok (.iconst 1, 1) := by decide +kernel
theorem dL_law_494 : decode cL_law 494 = .ok (.iadd, 1) := by decide +kernel
theorem dL_law_495 : decode cL_law 495 = .ok (.iaload, 1) := by decide +kernel
theorem dL_law_496 : decode cL_law 496 = .ok (.invokevirtual 72, 3) := by decide +kernel
theorem dL_law_499 : decode cL_law 499 = .ok (.if_icmp .eq 137, 3) := by decide +kernel
theorem dL_law_502 : decode cL_law 502 = .ok (.iconst 0, 1) := by decide +kernel
theorem dL_law_503 : decode cL_law 503 = .ok (.ireturn, 1) := by decide +kernel
theorem dL_law_504 : decode cL_law 504 = .ok (.aload_n 1, 1) := by decide +kernel
theorem dL_law_505 : decode cL_law 505 = .ok (.aload_n 0, 1) := by decide +kernel
theorem dL_law_506 : decode cL_law 506 = .ok (.iload_n 3, 1) := by decide +kernel
theorem dL_law_507 : decode cL_law 507 = .ok (.iconst 1, 1) := by decide +kernel
theorem dL_law_508 : decode cL_law 508 = .ok (.iadd, 1) := by decide +kernel
theorem dL_law_509 : decode cL_law 509 = .ok (.iaload, 1) := by decide +kernel
theorem dL_law_510 : decode cL_law 510 = .ok (.aload_n 0, 1) := by decide +kernel
theorem dL_law_511 : decode cL_law 511 = .ok (.iload_n 3, 1) := by decide +kernel
theorem dL_law_512 : decode cL_law 512 = .ok (.iconst 2, 1) := by decide +kernel
theorem dL_law_513 : decode cL_law 513 = .ok (.iadd, 1) := by decide +kernel
theorem dL_law_514 : decode cL_law 514 = .ok (.iaload, 1) := by decide +kernel
theorem dL_law_515 : decode cL_law 515 = .ok (.invokevirtual 73, 3) := by decide +kernel
theorem dL_law_518 : decode cL_law 518 = .ok (.aload_n 2, 1) := by decide +kernel
theorem dL_law_519 : decode cL_law 519 = .ok (.aload_n 0, 1) := by decide +kernel
theorem dL_law_520 : decode cL_law 520 = .ok (.iload_n 3, 1) := by decide +kernel
theorem dL_law_521 : decode cL_law 521 = .ok (.iconst 1, 1) := by decide +kernel
theorem dL_law_522 : decode cL_law 522 = .ok (.iadd, 1) := by decide +kernel
theorem dL_law_523 : decode cL_law 523 = .ok (.iaload, 1) := by decide +kernel
theorem dL_law_524 : decode cL_law 524 = .ok (.aload_n 0, 1) := by decide +kernel
theorem dL_law_525 : decode cL_law 525 = .ok (.iload_n 3, 1) := by decide +kernel
theorem dL_law_526 : decode cL_law 526 = .ok (.iconst 2, 1) := by decide +kernel
theorem dL_law_527 : decode cL_law 527 = .ok (.iadd, 1) := by decide +kernel
theorem dL_law_528 : decode cL_law 528 = .ok (.iaload, 1) := by decide +kernel
theorem dL_law_529 : decode cL_law 529 = .ok (.invokevirtual 76, 3) := by decide +kernel
theorem dL_law_532 : decode cL_law 532 = .ok (.if_icmp .eq 104, 3) := by decide +kernel
theorem dL_law_535 : decode cL_law 535 = .ok (.iconst 0, 1) := by decide +kernel
theorem dL_law_536 : decode cL_law 536 = .ok (.ireturn, 1) := by decide +kernel
theorem dL_law_537 : decode cL_law 537 = .ok (.aload_n 1, 1) := by decide +kernel
theorem dL_law_538 : decode cL_law 538 = .ok (.aload_n 0, 1) := by decide +kernel
theorem dL_law_539 : decode cL_law 539 = .ok (.iload_n 3, 1) := by decide +kernel
theorem dL_law_540 : decode cL_law 540 = .ok (.iconst 1, 1) := by decide +kernel
theorem dL_law_541 : decode cL_law 541 = .ok (.iadd, 1) := by decide +kernel
theorem dL_law_542 : decode cL_law 542 = .ok (.iaload, 1) := by decide +kernel
theorem dL_law_543 : decode cL_law 543 = .ok (.invokevirtual 77, 3) := by decide +kernel
theorem dL_law_546 : decode cL_law 546 = .ok (.aload_n 2, 1) := by decide +kernel
theorem dL_law_547 : decode cL_law 547 = .ok (.aload_n 0, 1) := by decide +kernel
theorem dL_law_548 : decode cL_law 548 = .ok (.iload_n 3, 1) := by decide +kernel
theorem dL_law_549 : decode cL_law 549 = .ok (.iconst 1, 1) := by decide +kernel
theorem dL_law_550 : decode cL_law 550 = .ok (.iadd, 1) := by decide +kernel
theorem dL_law_551 : decode cL_law 551 = .ok (.iaload, 1) := by decide +kernel
theorem dL_law_552 : decode cL_law 552 = .ok (.invokevirtual 80, 3) := by decide +kernel
theorem dL_law_555 : decode cL_law 555 = .ok (.if_icmp .eq 81, 3) := by decide +kernel
theorem dL_law_558 : decode cL_law 558 = .ok (.iconst 0, 1) := by decide +kernel
theorem dL_law_559 : decode cL_law 559 = .ok (.ireturn, 1) := by decide +kernel
theorem dL_law_560 : decode cL_law 560 = .ok (.aload_n 1, 1) := by decide +kernel
theorem dL_law_561 : decode cL_law 561 = .ok (.invokevirtual 81, 3) := by decide +kernel
theorem dL_law_564 : decode cL_law 564 = .ok (.aload_n 2, 1) := by decide +kernel
theorem dL_law_565 : decode cL_law 565 = .ok (.invokevirtual 84, 3) := by decide +kernel
theorem dL_law_568 : decode cL_law 568 = .ok (.if_icmp .eq 68, 3) := by decide +kernel
theorem dL_law_571 : decode cL_law 571 = .ok (.iconst 0, 1) := by decide +kernel
theorem dL_law_572 : decode cL_law 572 = .ok (.ireturn, 1) := by decide +kernel
theorem dL_law_573 : decode cL_law 573 = .ok (.aload_n 1, 1) := by decide +kernel
theorem dL_law_574 : decode cL_law 574 = .ok (.invokevirtual 85, 3) := by decide +kernel
theorem dL_law_577 : decode cL_law 577 = .ok (.aload_n 2, 1) := by decide +kernel
theorem dL_law_578 : decode cL_law 578 = .ok (.invokevirtual 88, 3) := by decide +kernel
theorem dL_law_581 : decode cL_law 581 = .ok (.if_icmp .eq 55, 3) := by decide +kernel
theorem dL_law_584 : decode cL_law 584 = .ok (.iconst 0, 1) := by decide +kernel
theorem dL_law_585 : decode cL_law 585 = .ok (.ireturn, 1) := by decide +kernel
theorem dL_law_586 : decode cL_law 586 = .ok (.aload_n 1, 1) := by decide +kernel
theorem dL_law_587 : decode cL_law 587 = .ok (.invokevirtual 89, 3) := by decide +kernel
theorem dL_law_590 : decode cL_law 590 = .ok (.aload_n 2, 1) := by decide +kernel
theorem dL_law_591 : decode cL_law 591 = .ok (.invokevirtual 92, 3) := by decide +kernel
theorem dL_law_594 : decode cL_law 594 = .ok (.if_icmp .eq 42, 3) := by decide +kernel
theorem dL_law_597 : decode cL_law 597 = .ok (.iconst 0, 1) := by decide +kernel
theorem dL_law_598 : decode cL_law 598 = .ok (.ireturn, 1) := by decide +kernel
theorem dL_law_599 : decode cL_law 599 = .ok (.aload_n 1, 1) := by decide +kernel
theorem dL_law_600 : decode cL_law 600 = .ok (.aload_n 0, 1) := by decide +kernel
theorem dL_law_601 : decode cL_law 601 = .ok (.iload_n 3, 1) := by decide +kernel
theorem dL_law_602 : decode cL_law 602 = .ok (.iconst 1, 1) := by decide +kernel
theorem dL_law_603 : decode cL_law 603 = .ok (.iadd, 1) := by decide +kernel
theorem dL_law_604 : decode cL_law 604 = .ok (.iaload, 1) := by decide +kernel
theorem dL_law_605 : decode cL_law 605 = .ok (.invokevirtual 93, 3) := by decide +kernel
theorem dL_law_608 : decode cL_law 608 = .ok (.aload_n 2, 1) := by decide +kernel
theorem dL_law_609 : decode cL_law 609 = .ok (.aload_n 0, 1) := by decide +kernel
theorem dL_law_610 : decode cL_law 610 = .ok (.iload_n 3, 1) := by decide +kernel
theorem dL_law_611 : decode cL_law 611 = .ok (.iconst 1, 1) := by decide +kernel
theorem dL_law_612 : decode cL_law 612 = .ok (.iadd, 1) := by decide +kernel
theorem dL_law_613 : decode cL_law 613 = .ok (.iaload, 1) := by decide +kernel
theorem dL_law_614 : decode cL_law 614 = .ok (.invokevirtual 96, 3) := by decide +kernel
theorem dL_law_617 : decode cL_law 617 = .ok (.if_icmp .eq 19, 3) := by decide +kernel
theorem dL_law_620 : decode cL_law 620 = .ok (.iconst 0, 1) := by decide +kernel
theorem dL_law_621 : decode cL_law 621 = .ok (.ireturn, 1) := by decide +kernel
theorem dL_law_622 : decode cL_law 622 = .ok (.aload_n 1, 1) := by decide +kernel
theorem dL_law_623 : decode cL_law 623 = .ok (.invokevirtual 97, 3) := by decide +kernel
theorem dL_law_626 : decode cL_law 626 = .ok (.aload_n 2, 1) := by decide +kernel
theorem dL_law_627 : decode cL_law 627 = .ok (.invokevirtual 101, 3) := by decide +kernel
theorem dL_law_630 : decode cL_law 630 = .ok (.lcmp, 1) := by decide +kernel
theorem dL_law_631 : decode cL_law 631 = .ok (.ifCond .eq 5, 3) := by decide +kernel
theorem dL_law_634 : decode cL_law 634 = .ok (.iconst 0, 1) := by decide +kernel
theorem dL_law_635 : decode cL_law 635 = .ok (.ireturn, 1) := by decide +kernel
theorem dL_law_636 : decode cL_law 636 = .ok (.iinc 3 4, 3) := by decide +kernel
theorem dL_law_639 : decode cL_law 639 = .ok (.goto (-621), 3) := by decide +kernel
theorem dL_law_642 : decode cL_law 642 = .ok (.iconst 1, 1) := by decide +kernel
theorem dL_law_643 : decode cL_law 643 = .ok (.ireturn, 1) := by decide +kernel
end
section
/-- words that go with a call: the kit's good ones, and the links between nest mates -/
def okw : Cond → Bool
  | .fieldLinkNest _ _ _ _ _ _ => true
  | .methodLinkNest _ _ _ _ => true
  | .arrayOver (.object _) => true
  | w => goodWord w
def TB : List Cond := lw_tbl.filter okw
theorem TB_of {w : Cond} (i : Nat) (h : lw_tbl[i]? = some w) (h2 : okw w = true) : w ∈ TB := List.mem_filter.mpr ⟨List.mem_of_getElem? h, h2⟩
theorem TB_in {w : Cond} (h : w ∈ TB) : w ∈ lw_tbl := (List.mem_filter.mp h).1
theorem TB_pay {args : Array Value} {s : State} (hts : ∀ w ∈ TB, w.before args s = true) : ∀ w ∈ TB, ∀ (a' : Array Value) (U : State), s.WarmedH U.vm → w.before a' U = true := by
  intro w hw a' U hW
  have h1 := hts w hw
  have h2 : okw w = true := (List.mem_filter.mp hw).2
  cases w with
  | fieldLinkNest a i b n d h => exact va_Nw.use rfl (va_Nw.warmF hW (va_Nw.of rfl h1))
  | methodLinkNest a i x h => exact va_Nw.use rfl (va_Nw.warmM hW (va_Nw.of rfl h1))
  | arrayOver t =>
    cases t with
    | object C => exact va_AO.use (va_AO.moved hW.alike (va_AO.of h1))
    | _ => exact word_at hW (good_of_word h2) h1
  | _ => exact word_at hW (good_of_word h2) h1
/-- a method that is called: its code, its class, its parameters -/
def LkC (y : MethodName) (b : ByteArray) (n : Nat) (ret : Option FieldType) (np : Nat) : Prop := Cond.code y b n ret ∈ TB ∧ Cond.initialized y.cls ∈ TB ∧ y.cls ≠ "java/lang/invoke/MethodHandle" ∧ y.cls ≠ "java/lang/invoke/VarHandle" ∧ (parseMethodDescriptor y.desc).map (fun d => d.parameters.length) = some np
def LkV (y : MethodName) (b : ByteArray) (n : Nat) (ret : Option FieldType) (np : Nat) : Prop := LkC y b n ret np ∧ Cond.instanceMethod y ∈ TB ∧ Cond.selects y.cls y y ∈ TB
def LkS (y : MethodName) (b : ByteArray) (n : Nat) (ret : Option FieldType) (np : Nat) : Prop := LkC y b n ret np ∧ Cond.static y ∈ TB
def LkI (y : MethodName) (b : ByteArray) (n : Nat) (np : Nat) : Prop := LkC y b n none np ∧ Cond.instanceMethod y ∈ TB ∧ y.name = "<init>"
def LkM (own : String) (idx : Nat) (y : MethodName) : Prop := Cond.methodLink own idx y ∈ TB ∨ ∃ host, Cond.methodLinkNest own idx y host ∈ TB
def LkF (own : String) (idx ci k : Nat) : Prop := ∃ q : vw_C, vwCl[ci]? = some q ∧ k < q.2.2 ∧ (∀ w ∈ u_ws q.1 q.2.1 q.2.2, w ∈ TB) ∧ (Cond.fieldLink own idx (q.2.1 k).1 (q.2.1 k).2.1 (q.2.1 k).2.2.1 ∈ TB ∨ ∃ host, Cond.fieldLinkNest own idx (q.2.1 k).1 (q.2.1 k).2.1 (q.2.1 k).2.2.1 host ∈ TB)
theorem ini_X0 : Cond.initialized RX0 ∈ TB := TB_of 82 (by decide +kernel) (by decide +kernel)
theorem ins_X0 : Cond.instantiable RX0 7 ∈ TB := TB_of 188 (by decide +kernel) (by decide +kernel)
theorem lay_X0_0 : u_lay RX0 TX0 0 ∈ TB := TB_of 203 (by decide +kernel) (by decide +kernel)
theorem lay_X0_1 : u_lay RX0 TX0 1 ∈ TB := TB_of 205 (by decide +kernel) (by decide +kernel)
theorem lay_X0_2 : u_lay RX0 TX0 2 ∈ TB := TB_of 207 (by decide +kernel) (by decide +kernel)
theorem lay_X0_3 : u_lay RX0 TX0 3 ∈ TB := TB_of 209 (by decide +kernel) (by decide +kernel)
theorem lay_X0_4 : u_lay RX0 TX0 4 ∈ TB := TB_of 211 (by decide +kernel) (by decide +kernel)
theorem lay_X0_5 : u_lay RX0 TX0 5 ∈ TB := TB_of 213 (by decide +kernel) (by decide +kernel)
theorem lay_X0_6 : u_lay RX0 TX0 6 ∈ TB := TB_of 215 (by decide +kernel) (by decide +kernel)
theorem in_X0 : ∀ w ∈ u_ws RX0 TX0 7, w ∈ TB := by
  intro w hw
  obtain ⟨k, hk, rfl⟩ := List.mem_map.mp hw
  have hk : k < 7 := List.mem_range.mp hk
  match k, hk with
  | 0, _ => exact lay_X0_0
  | 1, _ => exact lay_X0_1
  | 2, _ => exact lay_X0_2
  | 3, _ => exact lay_X0_3
  | 4, _ => exact lay_X0_4
  | 5, _ => exact lay_X0_5
  | 6, _ => exact lay_X0_6
  | k + 7, h => exact absurd h (by omega)
theorem ini_X1 : Cond.initialized RX1 ∈ TB := TB_of 79 (by decide +kernel) (by decide +kernel)
theorem ins_X1 : Cond.instantiable RX1 12 ∈ TB := TB_of 94 (by decide +kernel) (by decide +kernel)
theorem lay_X1_0 : u_lay RX1 TX1 0 ∈ TB := TB_of 122 (by decide +kernel) (by decide +kernel)
theorem lay_X1_1 : u_lay RX1 TX1 1 ∈ TB := TB_of 124 (by decide +kernel) (by decide +kernel)
theorem lay_X1_2 : u_lay RX1 TX1 2 ∈ TB := TB_of 126 (by decide +kernel) (by decide +kernel)
theorem lay_X1_3 : u_lay RX1 TX1 3 ∈ TB := TB_of 128 (by decide +kernel) (by decide +kernel)
theorem lay_X1_4 : u_lay RX1 TX1 4 ∈ TB := TB_of 130 (by decide +kernel) (by decide +kernel)
theorem lay_X1_5 : u_lay RX1 TX1 5 ∈ TB := TB_of 132 (by decide +kernel) (by decide +kernel)
theorem lay_X1_6 : u_lay RX1 TX1 6 ∈ TB := TB_of 134 (by decide +kernel) (by decide +kernel)
theorem lay_X1_7 : u_lay RX1 TX1 7 ∈ TB := TB_of 136 (by decide +kernel) (by decide +kernel)
theorem lay_X1_8 : u_lay RX1 TX1 8 ∈ TB := TB_of 138 (by decide +kernel) (by decide +kernel)
theorem lay_X1_9 : u_lay RX1 TX1 9 ∈ TB := TB_of 140 (by decide +kernel) (by decide +kernel)
theorem lay_X1_10 : u_lay RX1 TX1 10 ∈ TB := TB_of 142 (by decide +kernel) (by decide +kernel)
theorem lay_X1_11 : u_lay RX1 TX1 11 ∈ TB := TB_of 144 (by decide +kernel) (by decide +kernel)
theorem in_X1 : ∀ w ∈ u_ws RX1 TX1 12, w ∈ TB := by
  intro w hw
  obtain ⟨k, hk, rfl⟩ := List.mem_map.mp hw
  have hk : k < 12 := List.mem_range.mp hk
  match k, hk with
  | 0, _ => exact lay_X1_0
  | 1, _ => exact lay_X1_1
  | 2, _ => exact lay_X1_2
  | 3, _ => exact lay_X1_3
  | 4, _ => exact lay_X1_4
  | 5, _ => exact lay_X1_5
  | 6, _ => exact lay_X1_6
  | 7, _ => exact lay_X1_7
  | 8, _ => exact lay_X1_8
  | 9, _ => exact lay_X1_9
  | 10, _ => exact lay_X1_10
  | 11, _ => exact lay_X1_11
  | k + 12, h => exact absurd h (by omega)
theorem ini_X2 : Cond.initialized RX2 ∈ TB := TB_of 80 (by decide +kernel) (by decide +kernel)
theorem ins_X2 : Cond.instantiable RX2 5 ∈ TB := TB_of 149 (by decide +kernel) (by decide +kernel)
theorem lay_X2_0 : u_lay RX2 TX2 0 ∈ TB := TB_of 159 (by decide +kernel) (by decide +kernel)
theorem lay_X2_1 : u_lay RX2 TX2 1 ∈ TB := TB_of 161 (by decide +kernel) (by decide +kernel)
theorem lay_X2_2 : u_lay RX2 TX2 2 ∈ TB := TB_of 163 (by decide +kernel) (by decide +kernel)
theorem lay_X2_3 : u_lay RX2 TX2 3 ∈ TB := TB_of 165 (by decide +kernel) (by decide +kernel)
theorem lay_X2_4 : u_lay RX2 TX2 4 ∈ TB := TB_of 167 (by decide +kernel) (by decide +kernel)
theorem in_X2 : ∀ w ∈ u_ws RX2 TX2 5, w ∈ TB := by
  intro w hw
  obtain ⟨k, hk, rfl⟩ := List.mem_map.mp hw
  have hk : k < 5 := List.mem_range.mp hk
  match k, hk with
  | 0, _ => exact lay_X2_0
  | 1, _ => exact lay_X2_1
  | 2, _ => exact lay_X2_2
  | 3, _ => exact lay_X2_3
  | 4, _ => exact lay_X2_4
  | k + 5, h => exact absurd h (by omega)
theorem ini_X3 : Cond.initialized RX3 ∈ TB := TB_of 81 (by decide +kernel) (by decide +kernel)
theorem ins_X3 : Cond.instantiable RX3 2 ∈ TB := TB_of 171 (by decide +kernel) (by decide +kernel)
theorem lay_X3_0 : u_lay RX3 TX3 0 ∈ TB := TB_of 182 (by decide +kernel) (by decide +kernel)
theorem lay_X3_1 : u_lay RX3 TX3 1 ∈ TB := TB_of 184 (by decide +kernel) (by decide +kernel)
theorem in_X3 : ∀ w ∈ u_ws RX3 TX3 2, w ∈ TB := by
  intro w hw
  obtain ⟨k, hk, rfl⟩ := List.mem_map.mp hw
  have hk : k < 2 := List.mem_range.mp hk
  match k, hk with
  | 0, _ => exact lay_X3_0
  | 1, _ => exact lay_X3_1
  | k + 2, h => exact absurd h (by omega)
theorem ini_X4 : Cond.initialized RX4 ∈ TB := TB_of 78 (by decide +kernel) (by decide +kernel)
theorem ins_X4 : Cond.instantiable RX4 7 ∈ TB := TB_of 86 (by decide +kernel) (by decide +kernel)
theorem lay_X4_0 : u_lay RX4 TX4 0 ∈ TB := TB_of 225 (by decide +kernel) (by decide +kernel)
theorem lay_X4_1 : u_lay RX4 TX4 1 ∈ TB := TB_of 227 (by decide +kernel) (by decide +kernel)
theorem lay_X4_2 : u_lay RX4 TX4 2 ∈ TB := TB_of 229 (by decide +kernel) (by decide +kernel)
theorem lay_X4_3 : u_lay RX4 TX4 3 ∈ TB := TB_of 231 (by decide +kernel) (by decide +kernel)
theorem lay_X4_4 : u_lay RX4 TX4 4 ∈ TB := TB_of 233 (by decide +kernel) (by decide +kernel)
theorem lay_X4_5 : u_lay RX4 TX4 5 ∈ TB := TB_of 235 (by decide +kernel) (by decide +kernel)
theorem lay_X4_6 : u_lay RX4 TX4 6 ∈ TB := TB_of 237 (by decide +kernel) (by decide +kernel)
theorem in_X4 : ∀ w ∈ u_ws RX4 TX4 7, w ∈ TB := by
  intro w hw
  obtain ⟨k, hk, rfl⟩ := List.mem_map.mp hw
  have hk : k < 7 := List.mem_range.mp hk
  match k, hk with
  | 0, _ => exact lay_X4_0
  | 1, _ => exact lay_X4_1
  | 2, _ => exact lay_X4_2
  | 3, _ => exact lay_X4_3
  | 4, _ => exact lay_X4_4
  | 5, _ => exact lay_X4_5
  | 6, _ => exact lay_X4_6
  | k + 7, h => exact absurd h (by omega)
theorem ini_X5 : Cond.initialized RX5 ∈ TB := TB_of 83 (by decide +kernel) (by decide +kernel)
theorem ins_X5 : Cond.instantiable RX5 17 ∈ TB := TB_of 553 (by decide +kernel) (by decide +kernel)
theorem lay_X5_0 : u_lay RX5 TX5 0 ∈ TB := TB_of 575 (by decide +kernel) (by decide +kernel)
theorem lay_X5_1 : u_lay RX5 TX5 1 ∈ TB := TB_of 577 (by decide +kernel) (by decide +kernel)
theorem lay_X5_2 : u_lay RX5 TX5 2 ∈ TB := TB_of 579 (by decide +kernel) (by decide +kernel)
theorem lay_X5_3 : u_lay RX5 TX5 3 ∈ TB := TB_of 581 (by decide +kernel) (by decide +kernel)
theorem lay_X5_4 : u_lay RX5 TX5 4 ∈ TB := TB_of 583 (by decide +kernel) (by decide +kernel)
theorem lay_X5_5 : u_lay RX5 TX5 5 ∈ TB := TB_of 585 (by decide +kernel) (by decide +kernel)
theorem lay_X5_6 : u_lay RX5 TX5 6 ∈ TB := TB_of 587 (by decide +kernel) (by decide +kernel)
theorem lay_X5_7 : u_lay RX5 TX5 7 ∈ TB := TB_of 589 (by decide +kernel) (by decide +kernel)
theorem lay_X5_8 : u_lay RX5 TX5 8 ∈ TB := TB_of 591 (by decide +kernel) (by decide +kernel)
theorem lay_X5_9 : u_lay RX5 TX5 9 ∈ TB := TB_of 593 (by decide +kernel) (by decide +kernel)
theorem lay_X5_10 : u_lay RX5 TX5 10 ∈ TB := TB_of 595 (by decide +kernel) (by decide +kernel)
theorem lay_X5_11 : u_lay RX5 TX5 11 ∈ TB := TB_of 597 (by decide +kernel) (by decide +kernel)
theorem lay_X5_12 : u_lay RX5 TX5 12 ∈ TB := TB_of 599 (by decide +kernel) (by decide +kernel)
theorem lay_X5_13 : u_lay RX5 TX5 13 ∈ TB := TB_of 601 (by decide +kernel) (by decide +kernel)
theorem lay_X5_14 : u_lay RX5 TX5 14 ∈ TB := TB_of 603 (by decide +kernel) (by decide +kernel)
theorem lay_X5_15 : u_lay RX5 TX5 15 ∈ TB := TB_of 605 (by decide +kernel) (by decide +kernel)
theorem lay_X5_16 : u_lay RX5 TX5 16 ∈ TB := TB_of 607 (by decide +kernel) (by decide +kernel)
theorem in_X5 : ∀ w ∈ u_ws RX5 TX5 17, w ∈ TB := by
  intro w hw
  obtain ⟨k, hk, rfl⟩ := List.mem_map.mp hw
  have hk : k < 17 := List.mem_range.mp hk
  match k, hk with
  | 0, _ => exact lay_X5_0
  | 1, _ => exact lay_X5_1
  | 2, _ => exact lay_X5_2
  | 3, _ => exact lay_X5_3
  | 4, _ => exact lay_X5_4
  | 5, _ => exact lay_X5_5
  | 6, _ => exact lay_X5_6
  | 7, _ => exact lay_X5_7
  | 8, _ => exact lay_X5_8
  | 9, _ => exact lay_X5_9
  | 10, _ => exact lay_X5_10
  | 11, _ => exact lay_X5_11
  | 12, _ => exact lay_X5_12
  | 13, _ => exact lay_X5_13
  | 14, _ => exact lay_X5_14
  | 15, _ => exact lay_X5_15
  | 16, _ => exact lay_X5_16
  | k + 17, h => exact absurd h (by omega)
theorem kc_X0_init : LkC yX0_init cX0_init 1 none 0 := ⟨TB_of 191 (by decide +kernel) (by decide +kernel), TB_of 82 (by decide +kernel) (by decide +kernel), by decide +kernel, by decide +kernel, by decide +kernel⟩
theorem ki_X0_init : LkI yX0_init cX0_init 1 0 := ⟨kc_X0_init, TB_of 190 (by decide +kernel) (by decide +kernel), rfl⟩
theorem kc_X0_begin : LkC yX0_begin cX0_begin 1 none 0 := ⟨TB_of 503 (by decide +kernel) (by decide +kernel), TB_of 82 (by decide +kernel) (by decide +kernel), by decide +kernel, by decide +kernel, by decide +kernel⟩
theorem kv_X0_begin : LkV yX0_begin cX0_begin 1 none 0 := ⟨kc_X0_begin, TB_of 502 (by decide +kernel) (by decide +kernel), TB_of 36 (by decide +kernel) (by decide +kernel)⟩
theorem kc_X0_mayEnd : LkC yX0_mayEnd cX0_mayEnd 1 (some .boolean) 0 := ⟨TB_of 522 (by decide +kernel) (by decide +kernel), TB_of 82 (by decide +kernel) (by decide +kernel), by decide +kernel, by decide +kernel, by decide +kernel⟩
theorem kv_X0_mayEnd : LkV yX0_mayEnd cX0_mayEnd 1 (some .boolean) 0 := ⟨kc_X0_mayEnd, TB_of 521 (by decide +kernel) (by decide +kernel), TB_of 40 (by decide +kernel) (by decide +kernel)⟩
theorem kc_X0_take : LkC yX0_take cX0_take 2 (some .int) 1 := ⟨TB_of 507 (by decide +kernel) (by decide +kernel), TB_of 82 (by decide +kernel) (by decide +kernel), by decide +kernel, by decide +kernel, by decide +kernel⟩
theorem kv_X0_take : LkV yX0_take cX0_take 2 (some .int) 1 := ⟨kc_X0_take, TB_of 506 (by decide +kernel) (by decide +kernel), TB_of 37 (by decide +kernel) (by decide +kernel)⟩
theorem kc_X0_takeKind : LkC yX0_takeKind cX0_takeKind 2 (some .int) 1 := ⟨TB_of 511 (by decide +kernel) (by decide +kernel), TB_of 82 (by decide +kernel) (by decide +kernel), by decide +kernel, by decide +kernel, by decide +kernel⟩
theorem kv_X0_takeKind : LkV yX0_takeKind cX0_takeKind 2 (some .int) 1 := ⟨kc_X0_takeKind, TB_of 510 (by decide +kernel) (by decide +kernel), TB_of 38 (by decide +kernel) (by decide +kernel)⟩
theorem kc_X0_takeFigure : LkC yX0_takeFigure cX0_takeFigure 2 (some .int) 1 := ⟨TB_of 518 (by decide +kernel) (by decide +kernel), TB_of 82 (by decide +kernel) (by decide +kernel), by decide +kernel, by decide +kernel, by decide +kernel⟩
theorem kv_X0_takeFigure : LkV yX0_takeFigure cX0_takeFigure 2 (some .int) 1 := ⟨kc_X0_takeFigure, TB_of 517 (by decide +kernel) (by decide +kernel), TB_of 39 (by decide +kernel) (by decide +kernel)⟩
theorem kc_X0_numbersOf : LkC yX0_numbersOf cX0_numbersOf 1 (some .int) 1 := ⟨TB_of 514 (by decide +kernel) (by decide +kernel), TB_of 82 (by decide +kernel) (by decide +kernel), by decide +kernel, by decide +kernel, by decide +kernel⟩
theorem ks_X0_numbersOf : LkS yX0_numbersOf cX0_numbersOf 1 (some .int) 1 := ⟨kc_X0_numbersOf, TB_of 513 (by decide +kernel) (by decide +kernel)⟩
theorem kc_X1_init : LkC yX1_init cX1_init 2 none 0 := ⟨TB_of 97 (by decide +kernel) (by decide +kernel), TB_of 79 (by decide +kernel) (by decide +kernel), by decide +kernel, by decide +kernel, by decide +kernel⟩
theorem ki_X1_init : LkI yX1_init cX1_init 2 0 := ⟨kc_X1_init, TB_of 96 (by decide +kernel) (by decide +kernel), rfl⟩
theorem kc_X1_copyOf : LkC yX1_copyOf cX1_copyOf 3 none 1 := ⟨TB_of 319 (by decide +kernel) (by decide +kernel), TB_of 79 (by decide +kernel) (by decide +kernel), by decide +kernel, by decide +kernel, by decide +kernel⟩
theorem kv_X1_copyOf : LkV yX1_copyOf cX1_copyOf 3 none 1 := ⟨kc_X1_copyOf, TB_of 318 (by decide +kernel) (by decide +kernel), TB_of 12 (by decide +kernel) (by decide +kernel)⟩
theorem kc_X1_keyIn : LkC yX1_keyIn cX1_keyIn 2 (some .int) 1 := ⟨TB_of 262 (by decide +kernel) (by decide +kernel), TB_of 79 (by decide +kernel) (by decide +kernel), by decide +kernel, by decide +kernel, by decide +kernel⟩
theorem kv_X1_keyIn : LkV yX1_keyIn cX1_keyIn 2 (some .int) 1 := ⟨kc_X1_keyIn, TB_of 261 (by decide +kernel) (by decide +kernel), TB_of 3 (by decide +kernel) (by decide +kernel)⟩
theorem kc_X1_valueIn : LkC yX1_valueIn cX1_valueIn 2 (some .int) 1 := ⟨TB_of 344 (by decide +kernel) (by decide +kernel), TB_of 79 (by decide +kernel) (by decide +kernel), by decide +kernel, by decide +kernel, by decide +kernel⟩
theorem kv_X1_valueIn : LkV yX1_valueIn cX1_valueIn 2 (some .int) 1 := ⟨kc_X1_valueIn, TB_of 343 (by decide +kernel) (by decide +kernel), TB_of 18 (by decide +kernel) (by decide +kernel)⟩
theorem kc_X1_fill : LkC yX1_fill cX1_fill 4 none 3 := ⟨TB_of 348 (by decide +kernel) (by decide +kernel), TB_of 79 (by decide +kernel) (by decide +kernel), by decide +kernel, by decide +kernel, by decide +kernel⟩
theorem kv_X1_fill : LkV yX1_fill cX1_fill 4 none 3 := ⟨kc_X1_fill, TB_of 347 (by decide +kernel) (by decide +kernel), TB_of 19 (by decide +kernel) (by decide +kernel)⟩
theorem kc_X1_cellOf : LkC yX1_cellOf cX1_cellOf 3 (some .int) 1 := ⟨TB_of 258 (by decide +kernel) (by decide +kernel), TB_of 79 (by decide +kernel) (by decide +kernel), by decide +kernel, by decide +kernel, by decide +kernel⟩
theorem kv_X1_cellOf : LkV yX1_cellOf cX1_cellOf 3 (some .int) 1 := ⟨kc_X1_cellOf, TB_of 257 (by decide +kernel) (by decide +kernel), TB_of 2 (by decide +kernel) (by decide +kernel)⟩
theorem kc_X1_cellNumber : LkC yX1_cellNumber cX1_cellNumber 4 (some .int) 1 := ⟨TB_of 276 (by decide +kernel) (by decide +kernel), TB_of 79 (by decide +kernel) (by decide +kernel), by decide +kernel, by decide +kernel, by decide +kernel⟩
theorem kv_X1_cellNumber : LkV yX1_cellNumber cX1_cellNumber 4 (some .int) 1 := ⟨kc_X1_cellNumber, TB_of 275 (by decide +kernel) (by decide +kernel), TB_of 5 (by decide +kernel) (by decide +kernel)⟩
theorem kc_X1_keyNumber : LkC yX1_keyNumber cX1_keyNumber 2 (some .int) 1 := ⟨TB_of 434 (by decide +kernel) (by decide +kernel), TB_of 79 (by decide +kernel) (by decide +kernel), by decide +kernel, by decide +kernel, by decide +kernel⟩
theorem kv_X1_keyNumber : LkV yX1_keyNumber cX1_keyNumber 2 (some .int) 1 := ⟨kc_X1_keyNumber, TB_of 433 (by decide +kernel) (by decide +kernel), TB_of 29 (by decide +kernel) (by decide +kernel)⟩
theorem kc_X1_keysBelow : LkC yX1_keysBelow cX1_keysBelow 4 (some .int) 1 := ⟨TB_of 272 (by decide +kernel) (by decide +kernel), TB_of 79 (by decide +kernel) (by decide +kernel), by decide +kernel, by decide +kernel, by decide +kernel⟩
theorem kv_X1_keysBelow : LkV yX1_keysBelow cX1_keysBelow 4 (some .int) 1 := ⟨kc_X1_keysBelow, TB_of 271 (by decide +kernel) (by decide +kernel), TB_of 4 (by decide +kernel) (by decide +kernel)⟩
theorem kc_X1_keysIn : LkC yX1_keysIn cX1_keysIn 5 (some .int) 2 := ⟨TB_of 293 (by decide +kernel) (by decide +kernel), TB_of 79 (by decide +kernel) (by decide +kernel), by decide +kernel, by decide +kernel, by decide +kernel⟩
theorem kv_X1_keysIn : LkV yX1_keysIn cX1_keysIn 5 (some .int) 2 := ⟨kc_X1_keysIn, TB_of 292 (by decide +kernel) (by decide +kernel), TB_of 7 (by decide +kernel) (by decide +kernel)⟩
theorem kc_X1_valuesFrom : LkC yX1_valuesFrom cX1_valuesFrom 5 (some .int) 2 := ⟨TB_of 443 (by decide +kernel) (by decide +kernel), TB_of 79 (by decide +kernel) (by decide +kernel), by decide +kernel, by decide +kernel, by decide +kernel⟩
theorem kv_X1_valuesFrom : LkV yX1_valuesFrom cX1_valuesFrom 5 (some .int) 2 := ⟨kc_X1_valuesFrom, TB_of 442 (by decide +kernel) (by decide +kernel), TB_of 30 (by decide +kernel) (by decide +kernel)⟩
theorem kc_X1_cellsRead : LkC yX1_cellsRead cX1_cellsRead 5 (some .int) 2 := ⟨TB_of 448 (by decide +kernel) (by decide +kernel), TB_of 79 (by decide +kernel) (by decide +kernel), by decide +kernel, by decide +kernel, by decide +kernel⟩
theorem kv_X1_cellsRead : LkV yX1_cellsRead cX1_cellsRead 5 (some .int) 2 := ⟨kc_X1_cellsRead, TB_of 447 (by decide +kernel) (by decide +kernel), TB_of 31 (by decide +kernel) (by decide +kernel)⟩
theorem kc_X1_leastKeyOf : LkC yX1_leastKeyOf cX1_leastKeyOf 4 (some .int) 1 := ⟨TB_of 457 (by decide +kernel) (by decide +kernel), TB_of 79 (by decide +kernel) (by decide +kernel), by decide +kernel, by decide +kernel, by decide +kernel⟩
theorem kv_X1_leastKeyOf : LkV yX1_leastKeyOf cX1_leastKeyOf 4 (some .int) 1 := ⟨kc_X1_leastKeyOf, TB_of 456 (by decide +kernel) (by decide +kernel), TB_of 32 (by decide +kernel) (by decide +kernel)⟩
theorem kc_X1_top : LkC yX1_top cX1_top 1 (some .int) 0 := ⟨TB_of 283 (by decide +kernel) (by decide +kernel), TB_of 79 (by decide +kernel) (by decide +kernel), by decide +kernel, by decide +kernel, by decide +kernel⟩
theorem kv_X1_top : LkV yX1_top cX1_top 1 (some .int) 0 := ⟨kc_X1_top, TB_of 282 (by decide +kernel) (by decide +kernel), TB_of 6 (by decide +kernel) (by decide +kernel)⟩
theorem kc_X1_most : LkC yX1_most cX1_most 2 (some .int) 1 := ⟨TB_of 297 (by decide +kernel) (by decide +kernel), TB_of 79 (by decide +kernel) (by decide +kernel), by decide +kernel, by decide +kernel, by decide +kernel⟩
theorem kv_X1_most : LkV yX1_most cX1_most 2 (some .int) 1 := ⟨kc_X1_most, TB_of 296 (by decide +kernel) (by decide +kernel), TB_of 8 (by decide +kernel) (by decide +kernel)⟩
theorem kc_X1_least : LkC yX1_least cX1_least 2 (some .int) 1 := ⟨TB_of 374 (by decide +kernel) (by decide +kernel), TB_of 79 (by decide +kernel) (by decide +kernel), by decide +kernel, by decide +kernel, by decide +kernel⟩
theorem kv_X1_least : LkV yX1_least cX1_least 2 (some .int) 1 := ⟨kc_X1_least, TB_of 373 (by decide +kernel) (by decide +kernel), TB_of 24 (by decide +kernel) (by decide +kernel)⟩
theorem kc_X1_logged : LkC yX1_logged cX1_logged 3 (some .int) 2 := ⟨TB_of 482 (by decide +kernel) (by decide +kernel), TB_of 79 (by decide +kernel) (by decide +kernel), by decide +kernel, by decide +kernel, by decide +kernel⟩
theorem kv_X1_logged : LkV yX1_logged cX1_logged 3 (some .int) 2 := ⟨kc_X1_logged, TB_of 481 (by decide +kernel) (by decide +kernel), TB_of 34 (by decide +kernel) (by decide +kernel)⟩
theorem kc_X1_note : LkC yX1_note cX1_note 5 none 3 := ⟨TB_of 363 (by decide +kernel) (by decide +kernel), TB_of 79 (by decide +kernel) (by decide +kernel), by decide +kernel, by decide +kernel, by decide +kernel⟩
theorem kv_X1_note : LkV yX1_note cX1_note 5 none 3 := ⟨kc_X1_note, TB_of 362 (by decide +kernel) (by decide +kernel), TB_of 22 (by decide +kernel) (by decide +kernel)⟩
theorem kc_X2_init : LkC yX2_init cX2_init 1 none 0 := ⟨TB_of 152 (by decide +kernel) (by decide +kernel), TB_of 80 (by decide +kernel) (by decide +kernel), by decide +kernel, by decide +kernel, by decide +kernel⟩
theorem ki_X2_init : LkI yX2_init cX2_init 1 0 := ⟨kc_X2_init, TB_of 151 (by decide +kernel) (by decide +kernel), rfl⟩
theorem kc_X2_hasRoom : LkC yX2_hasRoom cX2_hasRoom 2 (some .boolean) 2 := ⟨TB_of 265 (by decide +kernel) (by decide +kernel), TB_of 80 (by decide +kernel) (by decide +kernel), by decide +kernel, by decide +kernel, by decide +kernel⟩
theorem ks_X2_hasRoom : LkS yX2_hasRoom cX2_hasRoom 2 (some .boolean) 2 := ⟨kc_X2_hasRoom, TB_of 264 (by decide +kernel) (by decide +kernel)⟩
theorem kc_X2_segmentFor : LkC yX2_segmentFor cX2_segmentFor 3 (some .int) 2 := ⟨TB_of 268 (by decide +kernel) (by decide +kernel), TB_of 80 (by decide +kernel) (by decide +kernel), by decide +kernel, by decide +kernel, by decide +kernel⟩
theorem ks_X2_segmentFor : LkS yX2_segmentFor cX2_segmentFor 3 (some .int) 2 := ⟨kc_X2_segmentFor, TB_of 267 (by decide +kernel) (by decide +kernel)⟩
theorem kc_X2_levelFor : LkC yX2_levelFor cX2_levelFor 3 (some .int) 2 := ⟨TB_of 279 (by decide +kernel) (by decide +kernel), TB_of 80 (by decide +kernel) (by decide +kernel), by decide +kernel, by decide +kernel, by decide +kernel⟩
theorem ks_X2_levelFor : LkS yX2_levelFor cX2_levelFor 3 (some .int) 2 := ⟨kc_X2_levelFor, TB_of 278 (by decide +kernel) (by decide +kernel)⟩
theorem kc_X2_windowStart : LkC yX2_windowStart cX2_windowStart 2 (some .int) 2 := ⟨TB_of 286 (by decide +kernel) (by decide +kernel), TB_of 80 (by decide +kernel) (by decide +kernel), by decide +kernel, by decide +kernel, by decide +kernel⟩
theorem ks_X2_windowStart : LkS yX2_windowStart cX2_windowStart 2 (some .int) 2 := ⟨kc_X2_windowStart, TB_of 285 (by decide +kernel) (by decide +kernel)⟩
theorem kc_X2_come : LkC yX2_come cX2_come 7 (some .int) 3 := ⟨TB_of 335 (by decide +kernel) (by decide +kernel), TB_of 80 (by decide +kernel) (by decide +kernel), by decide +kernel, by decide +kernel, by decide +kernel⟩
theorem kv_X2_come : LkV yX2_come cX2_come 7 (some .int) 3 := ⟨kc_X2_come, TB_of 334 (by decide +kernel) (by decide +kernel), TB_of 16 (by decide +kernel) (by decide +kernel)⟩
theorem kc_X2_go : LkC yX2_go cX2_go 7 (some .int) 2 := ⟨TB_of 370 (by decide +kernel) (by decide +kernel), TB_of 80 (by decide +kernel) (by decide +kernel), by decide +kernel, by decide +kernel, by decide +kernel⟩
theorem kv_X2_go : LkV yX2_go cX2_go 7 (some .int) 2 := ⟨kc_X2_go, TB_of 369 (by decide +kernel) (by decide +kernel), TB_of 23 (by decide +kernel) (by decide +kernel)⟩
theorem kc_X2_shrink : LkC yX2_shrink cX2_shrink 2 none 1 := ⟨TB_of 382 (by decide +kernel) (by decide +kernel), TB_of 80 (by decide +kernel) (by decide +kernel), by decide +kernel, by decide +kernel, by decide +kernel⟩
theorem kv_X2_shrink : LkV yX2_shrink cX2_shrink 2 none 1 := ⟨kc_X2_shrink, TB_of 381 (by decide +kernel) (by decide +kernel), TB_of 26 (by decide +kernel) (by decide +kernel)⟩
theorem kc_X2_space : LkC yX2_space cX2_space 4 (some .int) 3 := ⟨TB_of 378 (by decide +kernel) (by decide +kernel), TB_of 80 (by decide +kernel) (by decide +kernel), by decide +kernel, by decide +kernel, by decide +kernel⟩
theorem kv_X2_space : LkV yX2_space cX2_space 4 (some .int) 3 := ⟨kc_X2_space, TB_of 377 (by decide +kernel) (by decide +kernel), TB_of 25 (by decide +kernel) (by decide +kernel)⟩
theorem kc_X2_takeUp : LkC yX2_takeUp cX2_takeUp 5 none 3 := ⟨TB_of 339 (by decide +kernel) (by decide +kernel), TB_of 80 (by decide +kernel) (by decide +kernel), by decide +kernel, by decide +kernel, by decide +kernel⟩
theorem kv_X2_takeUp : LkV yX2_takeUp cX2_takeUp 5 none 3 := ⟨kc_X2_takeUp, TB_of 338 (by decide +kernel) (by decide +kernel), TB_of 17 (by decide +kernel) (by decide +kernel)⟩
theorem kc_X2_takeIn : LkC yX2_takeIn cX2_takeIn 4 none 2 := ⟨TB_of 355 (by decide +kernel) (by decide +kernel), TB_of 80 (by decide +kernel) (by decide +kernel), by decide +kernel, by decide +kernel, by decide +kernel⟩
theorem kv_X2_takeIn : LkV yX2_takeIn cX2_takeIn 4 none 2 := ⟨kc_X2_takeIn, TB_of 354 (by decide +kernel) (by decide +kernel), TB_of 20 (by decide +kernel) (by decide +kernel)⟩
theorem kc_X2_layDown : LkC yX2_layDown cX2_layDown 9 (some .int) 3 := ⟨TB_of 359 (by decide +kernel) (by decide +kernel), TB_of 80 (by decide +kernel) (by decide +kernel), by decide +kernel, by decide +kernel, by decide +kernel⟩
theorem kv_X2_layDown : LkV yX2_layDown cX2_layDown 9 (some .int) 3 := ⟨kc_X2_layDown, TB_of 358 (by decide +kernel) (by decide +kernel), TB_of 21 (by decide +kernel) (by decide +kernel)⟩
theorem kc_X3_init : LkC yX3_init cX3_init 2 none 0 := ⟨TB_of 174 (by decide +kernel) (by decide +kernel), TB_of 81 (by decide +kernel) (by decide +kernel), by decide +kernel, by decide +kernel, by decide +kernel⟩
theorem ki_X3_init : LkI yX3_init cX3_init 2 0 := ⟨kc_X3_init, TB_of 173 (by decide +kernel) (by decide +kernel), rfl⟩
theorem kc_X3_keep : LkC yX3_keep cX3_keep 2 none 1 := ⟨TB_of 310 (by decide +kernel) (by decide +kernel), TB_of 81 (by decide +kernel) (by decide +kernel), by decide +kernel, by decide +kernel, by decide +kernel⟩
theorem kv_X3_keep : LkV yX3_keep cX3_keep 2 none 1 := ⟨kc_X3_keep, TB_of 309 (by decide +kernel) (by decide +kernel), TB_of 10 (by decide +kernel) (by decide +kernel)⟩
theorem kc_X3_mark : LkC yX3_mark cX3_mark 2 none 1 := ⟨TB_of 314 (by decide +kernel) (by decide +kernel), TB_of 81 (by decide +kernel) (by decide +kernel), by decide +kernel, by decide +kernel, by decide +kernel⟩
theorem kv_X3_mark : LkV yX3_mark cX3_mark 2 none 1 := ⟨kc_X3_mark, TB_of 313 (by decide +kernel) (by decide +kernel), TB_of 11 (by decide +kernel) (by decide +kernel)⟩
theorem kc_X3_returnToMark : LkC yX3_returnToMark cX3_returnToMark 2 none 1 := ⟨TB_of 527 (by decide +kernel) (by decide +kernel), TB_of 81 (by decide +kernel) (by decide +kernel), by decide +kernel, by decide +kernel, by decide +kernel⟩
theorem kv_X3_returnToMark : LkV yX3_returnToMark cX3_returnToMark 2 none 1 := ⟨kc_X3_returnToMark, TB_of 526 (by decide +kernel) (by decide +kernel), TB_of 41 (by decide +kernel) (by decide +kernel)⟩
theorem kc_X3_keepMark : LkC yX3_keepMark cX3_keepMark 3 none 0 := ⟨TB_of 323 (by decide +kernel) (by decide +kernel), TB_of 81 (by decide +kernel) (by decide +kernel), by decide +kernel, by decide +kernel, by decide +kernel⟩
theorem kv_X3_keepMark : LkV yX3_keepMark cX3_keepMark 3 none 0 := ⟨kc_X3_keepMark, TB_of 322 (by decide +kernel) (by decide +kernel), TB_of 13 (by decide +kernel) (by decide +kernel)⟩
theorem kc_X3_goBack : LkC yX3_goBack cX3_goBack 2 (some .boolean) 1 := ⟨TB_of 536 (by decide +kernel) (by decide +kernel), TB_of 81 (by decide +kernel) (by decide +kernel), by decide +kernel, by decide +kernel, by decide +kernel⟩
theorem kv_X3_goBack : LkV yX3_goBack cX3_goBack 2 (some .boolean) 1 := ⟨kc_X3_goBack, TB_of 535 (by decide +kernel) (by decide +kernel), TB_of 42 (by decide +kernel) (by decide +kernel)⟩
theorem kc_X4_init : LkC yX4_init cX4_init 1 none 0 := ⟨TB_of 89 (by decide +kernel) (by decide +kernel), TB_of 78 (by decide +kernel) (by decide +kernel), by decide +kernel, by decide +kernel, by decide +kernel⟩
theorem ki_X4_init : LkI yX4_init cX4_init 1 0 := ⟨kc_X4_init, TB_of 88 (by decide +kernel) (by decide +kernel), rfl⟩
theorem kc_X4_puts : LkC yX4_puts cX4_puts 3 (some .int) 2 := ⟨TB_of 243 (by decide +kernel) (by decide +kernel), TB_of 78 (by decide +kernel) (by decide +kernel), by decide +kernel, by decide +kernel, by decide +kernel⟩
theorem kv_X4_puts : LkV yX4_puts cX4_puts 3 (some .int) 2 := ⟨kc_X4_puts, TB_of 241 (by decide +kernel) (by decide +kernel), TB_of 242 (by decide +kernel) (by decide +kernel)⟩
theorem kc_X4_takes : LkC yX4_takes cX4_takes 2 (some .int) 1 := ⟨TB_of 396 (by decide +kernel) (by decide +kernel), TB_of 78 (by decide +kernel) (by decide +kernel), by decide +kernel, by decide +kernel, by decide +kernel⟩
theorem kv_X4_takes : LkV yX4_takes cX4_takes 2 (some .int) 1 := ⟨kc_X4_takes, TB_of 394 (by decide +kernel) (by decide +kernel), TB_of 395 (by decide +kernel) (by decide +kernel)⟩
theorem kc_X4_drops : LkC yX4_drops cX4_drops 3 (some .int) 2 := ⟨TB_of 400 (by decide +kernel) (by decide +kernel), TB_of 78 (by decide +kernel) (by decide +kernel), by decide +kernel, by decide +kernel, by decide +kernel⟩
theorem kv_X4_drops : LkV yX4_drops cX4_drops 3 (some .int) 2 := ⟨kc_X4_drops, TB_of 398 (by decide +kernel) (by decide +kernel), TB_of 399 (by decide +kernel) (by decide +kernel)⟩
theorem kc_X4_mode : LkC yX4_mode cX4_mode 2 (some .int) 1 := ⟨TB_of 404 (by decide +kernel) (by decide +kernel), TB_of 78 (by decide +kernel) (by decide +kernel), by decide +kernel, by decide +kernel, by decide +kernel⟩
theorem kv_X4_mode : LkV yX4_mode cX4_mode 2 (some .int) 1 := ⟨kc_X4_mode, TB_of 402 (by decide +kernel) (by decide +kernel), TB_of 403 (by decide +kernel) (by decide +kernel)⟩
theorem kc_X4_spaces : LkC yX4_spaces cX4_spaces 1 (some .int) 0 := ⟨TB_of 408 (by decide +kernel) (by decide +kernel), TB_of 78 (by decide +kernel) (by decide +kernel), by decide +kernel, by decide +kernel, by decide +kernel⟩
theorem kv_X4_spaces : LkV yX4_spaces cX4_spaces 1 (some .int) 0 := ⟨kc_X4_spaces, TB_of 406 (by decide +kernel) (by decide +kernel), TB_of 407 (by decide +kernel) (by decide +kernel)⟩
theorem kc_X4_value : LkC yX4_value cX4_value 3 (some .int) 1 := ⟨TB_of 413 (by decide +kernel) (by decide +kernel), TB_of 78 (by decide +kernel) (by decide +kernel), by decide +kernel, by decide +kernel, by decide +kernel⟩
theorem kv_X4_value : LkV yX4_value cX4_value 3 (some .int) 1 := ⟨kc_X4_value, TB_of 411 (by decide +kernel) (by decide +kernel), TB_of 412 (by decide +kernel) (by decide +kernel)⟩
theorem kc_X4_cell : LkC yX4_cell cX4_cell 2 (some .int) 1 := ⟨TB_of 417 (by decide +kernel) (by decide +kernel), TB_of 78 (by decide +kernel) (by decide +kernel), by decide +kernel, by decide +kernel, by decide +kernel⟩
theorem kv_X4_cell : LkV yX4_cell cX4_cell 2 (some .int) 1 := ⟨kc_X4_cell, TB_of 415 (by decide +kernel) (by decide +kernel), TB_of 416 (by decide +kernel) (by decide +kernel)⟩
theorem kc_X4_at : LkC yX4_at cX4_at 2 (some .int) 1 := ⟨TB_of 421 (by decide +kernel) (by decide +kernel), TB_of 78 (by decide +kernel) (by decide +kernel), by decide +kernel, by decide +kernel, by decide +kernel⟩
theorem kv_X4_at : LkV yX4_at cX4_at 2 (some .int) 1 := ⟨kc_X4_at, TB_of 419 (by decide +kernel) (by decide +kernel), TB_of 420 (by decide +kernel) (by decide +kernel)⟩
theorem kc_X4_rank : LkC yX4_rank cX4_rank 2 (some .int) 1 := ⟨TB_of 426 (by decide +kernel) (by decide +kernel), TB_of 78 (by decide +kernel) (by decide +kernel), by decide +kernel, by decide +kernel, by decide +kernel⟩
theorem kv_X4_rank : LkV yX4_rank cX4_rank 2 (some .int) 1 := ⟨kc_X4_rank, TB_of 424 (by decide +kernel) (by decide +kernel), TB_of 425 (by decide +kernel) (by decide +kernel)⟩
theorem kc_X4_key : LkC yX4_key cX4_key 2 (some .int) 1 := ⟨TB_of 430 (by decide +kernel) (by decide +kernel), TB_of 78 (by decide +kernel) (by decide +kernel), by decide +kernel, by decide +kernel, by decide +kernel⟩
theorem kv_X4_key : LkV yX4_key cX4_key 2 (some .int) 1 := ⟨kc_X4_key, TB_of 428 (by decide +kernel) (by decide +kernel), TB_of 429 (by decide +kernel) (by decide +kernel)⟩
theorem kc_X4_scan : LkC yX4_scan cX4_scan 4 (some .int) 3 := ⟨TB_of 439 (by decide +kernel) (by decide +kernel), TB_of 78 (by decide +kernel) (by decide +kernel), by decide +kernel, by decide +kernel, by decide +kernel⟩
theorem kv_X4_scan : LkV yX4_scan cX4_scan 4 (some .int) 3 := ⟨kc_X4_scan, TB_of 437 (by decide +kernel) (by decide +kernel), TB_of 438 (by decide +kernel) (by decide +kernel)⟩
theorem kc_X4_index : LkC yX4_index cX4_index 2 (some .int) 1 := ⟨TB_of 453 (by decide +kernel) (by decide +kernel), TB_of 78 (by decide +kernel) (by decide +kernel), by decide +kernel, by decide +kernel, by decide +kernel⟩
theorem kv_X4_index : LkV yX4_index cX4_index 2 (some .int) 1 := ⟨kc_X4_index, TB_of 451 (by decide +kernel) (by decide +kernel), TB_of 452 (by decide +kernel) (by decide +kernel)⟩
theorem kc_X4_window : LkC yX4_window cX4_window 5 (some .int) 3 := ⟨TB_of 461 (by decide +kernel) (by decide +kernel), TB_of 78 (by decide +kernel) (by decide +kernel), by decide +kernel, by decide +kernel, by decide +kernel⟩
theorem kv_X4_window : LkV yX4_window cX4_window 5 (some .int) 3 := ⟨kc_X4_window, TB_of 459 (by decide +kernel) (by decide +kernel), TB_of 460 (by decide +kernel) (by decide +kernel)⟩
theorem kc_X4_count : LkC yX4_count cX4_count 2 (some .int) 1 := ⟨TB_of 470 (by decide +kernel) (by decide +kernel), TB_of 78 (by decide +kernel) (by decide +kernel), by decide +kernel, by decide +kernel, by decide +kernel⟩
theorem kv_X4_count : LkV yX4_count cX4_count 2 (some .int) 1 := ⟨kc_X4_count, TB_of 468 (by decide +kernel) (by decide +kernel), TB_of 469 (by decide +kernel) (by decide +kernel)⟩
theorem kc_X4_log : LkC yX4_log cX4_log 3 (some .int) 2 := ⟨TB_of 478 (by decide +kernel) (by decide +kernel), TB_of 78 (by decide +kernel) (by decide +kernel), by decide +kernel, by decide +kernel, by decide +kernel⟩
theorem kv_X4_log : LkV yX4_log cX4_log 3 (some .int) 2 := ⟨kc_X4_log, TB_of 476 (by decide +kernel) (by decide +kernel), TB_of 477 (by decide +kernel) (by decide +kernel)⟩
theorem kc_X4_type : LkC yX4_type cX4_type 2 (some .int) 1 := ⟨TB_of 487 (by decide +kernel) (by decide +kernel), TB_of 78 (by decide +kernel) (by decide +kernel), by decide +kernel, by decide +kernel, by decide +kernel⟩
theorem kv_X4_type : LkV yX4_type cX4_type 2 (some .int) 1 := ⟨kc_X4_type, TB_of 485 (by decide +kernel) (by decide +kernel), TB_of 486 (by decide +kernel) (by decide +kernel)⟩
theorem kc_X4_clear : LkC yX4_clear cX4_clear 2 (some .int) 0 := ⟨TB_of 491 (by decide +kernel) (by decide +kernel), TB_of 78 (by decide +kernel) (by decide +kernel), by decide +kernel, by decide +kernel, by decide +kernel⟩
theorem kv_X4_clear : LkV yX4_clear cX4_clear 2 (some .int) 0 := ⟨kc_X4_clear, TB_of 489 (by decide +kernel) (by decide +kernel), TB_of 490 (by decide +kernel) (by decide +kernel)⟩
theorem kc_X4_does : LkC yX4_does cX4_does 4 (some .int) 0 := ⟨TB_of 495 (by decide +kernel) (by decide +kernel), TB_of 78 (by decide +kernel) (by decide +kernel), by decide +kernel, by decide +kernel, by decide +kernel⟩
theorem kv_X4_does : LkV yX4_does cX4_does 4 (some .int) 0 := ⟨kc_X4_does, TB_of 493 (by decide +kernel) (by decide +kernel), TB_of 494 (by decide +kernel) (by decide +kernel)⟩
theorem kc_X4_back : LkC yX4_back cX4_back 1 (some .int) 0 := ⟨TB_of 532 (by decide +kernel) (by decide +kernel), TB_of 78 (by decide +kernel) (by decide +kernel), by decide +kernel, by decide +kernel, by decide +kernel⟩
theorem kv_X4_back : LkV yX4_back cX4_back 1 (some .int) 0 := ⟨kc_X4_back, TB_of 530 (by decide +kernel) (by decide +kernel), TB_of 531 (by decide +kernel) (by decide +kernel)⟩
theorem kc_X4_told : LkC yX4_told cX4_told 2 (some .int) 1 := ⟨TB_of 541 (by decide +kernel) (by decide +kernel), TB_of 78 (by decide +kernel) (by decide +kernel), by decide +kernel, by decide +kernel, by decide +kernel⟩
theorem kv_X4_told : LkV yX4_told cX4_told 2 (some .int) 1 := ⟨kc_X4_told, TB_of 539 (by decide +kernel) (by decide +kernel), TB_of 540 (by decide +kernel) (by decide +kernel)⟩
theorem kc_X4_digest : LkC yX4_digest cX4_digest 5 (some .long) 0 := ⟨TB_of 549 (by decide +kernel) (by decide +kernel), TB_of 78 (by decide +kernel) (by decide +kernel), by decide +kernel, by decide +kernel, by decide +kernel⟩
theorem kv_X4_digest : LkV yX4_digest cX4_digest 5 (some .long) 0 := ⟨kc_X4_digest, TB_of 547 (by decide +kernel) (by decide +kernel), TB_of 548 (by decide +kernel) (by decide +kernel)⟩
theorem kc_X4_call : LkC yX4_call cX4_call 5 (some .int) 3 := ⟨TB_of 247 (by decide +kernel) (by decide +kernel), TB_of 78 (by decide +kernel) (by decide +kernel), by decide +kernel, by decide +kernel, by decide +kernel⟩
theorem kv_X4_call : LkV yX4_call cX4_call 5 (some .int) 3 := ⟨kc_X4_call, TB_of 246 (by decide +kernel) (by decide +kernel), TB_of 0 (by decide +kernel) (by decide +kernel)⟩
theorem kc_X4_refusalOf : LkC yX4_refusalOf cX4_refusalOf 4 (some .int) 3 := ⟨TB_of 251 (by decide +kernel) (by decide +kernel), TB_of 78 (by decide +kernel) (by decide +kernel), by decide +kernel, by decide +kernel, by decide +kernel⟩
theorem kv_X4_refusalOf : LkV yX4_refusalOf cX4_refusalOf 4 (some .int) 3 := ⟨kc_X4_refusalOf, TB_of 250 (by decide +kernel) (by decide +kernel), TB_of 1 (by decide +kernel) (by decide +kernel)⟩
theorem kc_X4_carryOut : LkC yX4_carryOut cX4_carryOut 4 (some .int) 3 := ⟨TB_of 327 (by decide +kernel) (by decide +kernel), TB_of 78 (by decide +kernel) (by decide +kernel), by decide +kernel, by decide +kernel, by decide +kernel⟩
theorem kv_X4_carryOut : LkV yX4_carryOut cX4_carryOut 4 (some .int) 3 := ⟨kc_X4_carryOut, TB_of 326 (by decide +kernel) (by decide +kernel), TB_of 14 (by decide +kernel) (by decide +kernel)⟩
theorem kc_X4_turnMode : LkC yX4_turnMode cX4_turnMode 3 (some .int) 1 := ⟨TB_of 392 (by decide +kernel) (by decide +kernel), TB_of 78 (by decide +kernel) (by decide +kernel), by decide +kernel, by decide +kernel, by decide +kernel⟩
theorem kv_X4_turnMode : LkV yX4_turnMode cX4_turnMode 3 (some .int) 1 := ⟨kc_X4_turnMode, TB_of 391 (by decide +kernel) (by decide +kernel), TB_of 28 (by decide +kernel) (by decide +kernel)⟩
theorem kc_X4_putKey : LkC yX4_putKey cX4_putKey 5 (some .int) 2 := ⟨TB_of 331 (by decide +kernel) (by decide +kernel), TB_of 78 (by decide +kernel) (by decide +kernel), by decide +kernel, by decide +kernel, by decide +kernel⟩
theorem kv_X4_putKey : LkV yX4_putKey cX4_putKey 5 (some .int) 2 := ⟨kc_X4_putKey, TB_of 330 (by decide +kernel) (by decide +kernel), TB_of 15 (by decide +kernel) (by decide +kernel)⟩
theorem kc_X4_dropKeys : LkC yX4_dropKeys cX4_dropKeys 6 (some .int) 2 := ⟨TB_of 386 (by decide +kernel) (by decide +kernel), TB_of 78 (by decide +kernel) (by decide +kernel), by decide +kernel, by decide +kernel, by decide +kernel⟩
theorem kv_X4_dropKeys : LkV yX4_dropKeys cX4_dropKeys 6 (some .int) 2 := ⟨kc_X4_dropKeys, TB_of 385 (by decide +kernel) (by decide +kernel), TB_of 27 (by decide +kernel) (by decide +kernel)⟩
theorem kc_X4_refuse : LkC yX4_refuse cX4_refuse 3 (some .int) 1 := ⟨TB_of 306 (by decide +kernel) (by decide +kernel), TB_of 78 (by decide +kernel) (by decide +kernel), by decide +kernel, by decide +kernel, by decide +kernel⟩
theorem kv_X4_refuse : LkV yX4_refuse cX4_refuse 3 (some .int) 1 := ⟨kc_X4_refuse, TB_of 305 (by decide +kernel) (by decide +kernel), TB_of 9 (by decide +kernel) (by decide +kernel)⟩
theorem kc_X4_counted : LkC yX4_counted cX4_counted 2 (some .int) 1 := ⟨TB_of 474 (by decide +kernel) (by decide +kernel), TB_of 78 (by decide +kernel) (by decide +kernel), by decide +kernel, by decide +kernel, by decide +kernel⟩
theorem kv_X4_counted : LkV yX4_counted cX4_counted 2 (some .int) 1 := ⟨kc_X4_counted, TB_of 473 (by decide +kernel) (by decide +kernel), TB_of 33 (by decide +kernel) (by decide +kernel)⟩
theorem kc_X4_toldOf : LkC yX4_toldOf cX4_toldOf 2 (some .int) 1 := ⟨TB_of 545 (by decide +kernel) (by decide +kernel), TB_of 78 (by decide +kernel) (by decide +kernel), by decide +kernel, by decide +kernel, by decide +kernel⟩
theorem kv_X4_toldOf : LkV yX4_toldOf cX4_toldOf 2 (some .int) 1 := ⟨kc_X4_toldOf, TB_of 544 (by decide +kernel) (by decide +kernel), TB_of 43 (by decide +kernel) (by decide +kernel)⟩
theorem kc_X4_faultOfText : LkC yX4_faultOfText cX4_faultOfText 2 (some .int) 0 := ⟨TB_of 499 (by decide +kernel) (by decide +kernel), TB_of 78 (by decide +kernel) (by decide +kernel), by decide +kernel, by decide +kernel, by decide +kernel⟩
theorem kv_X4_faultOfText : LkV yX4_faultOfText cX4_faultOfText 2 (some .int) 0 := ⟨kc_X4_faultOfText, TB_of 498 (by decide +kernel) (by decide +kernel), TB_of 35 (by decide +kernel) (by decide +kernel)⟩
theorem kc_X4_within : LkC yX4_within cX4_within 2 (some .boolean) 2 := ⟨TB_of 254 (by decide +kernel) (by decide +kernel), TB_of 78 (by decide +kernel) (by decide +kernel), by decide +kernel, by decide +kernel, by decide +kernel⟩
theorem ks_X4_within : LkS yX4_within cX4_within 2 (some .boolean) 2 := ⟨kc_X4_within, TB_of 253 (by decide +kernel) (by decide +kernel)⟩
theorem kc_X4_isSpan : LkC yX4_isSpan cX4_isSpan 2 (some .boolean) 2 := ⟨TB_of 302 (by decide +kernel) (by decide +kernel), TB_of 78 (by decide +kernel) (by decide +kernel), by decide +kernel, by decide +kernel, by decide +kernel⟩
theorem ks_X4_isSpan : LkS yX4_isSpan cX4_isSpan 2 (some .boolean) 2 := ⟨kc_X4_isSpan, TB_of 301 (by decide +kernel) (by decide +kernel)⟩
theorem kc_X4_cellsOf : LkC yX4_cellsOf cX4_cellsOf 1 (some .int) 1 := ⟨TB_of 289 (by decide +kernel) (by decide +kernel), TB_of 78 (by decide +kernel) (by decide +kernel), by decide +kernel, by decide +kernel, by decide +kernel⟩
theorem ks_X4_cellsOf : LkS yX4_cellsOf cX4_cellsOf 1 (some .int) 1 := ⟨kc_X4_cellsOf, TB_of 288 (by decide +kernel) (by decide +kernel)⟩
theorem kc_X5_init : LkC yX5_init cX5_init 2 none 0 := ⟨TB_of 556 (by decide +kernel) (by decide +kernel), TB_of 83 (by decide +kernel) (by decide +kernel), by decide +kernel, by decide +kernel, by decide +kernel⟩
theorem ki_X5_init : LkI yX5_init cX5_init 2 0 := ⟨kc_X5_init, TB_of 555 (by decide +kernel) (by decide +kernel), rfl⟩
theorem kc_X5_in : LkC yX5_in cX5_in 3 (some .boolean) 3 := ⟨TB_of 624 (by decide +kernel) (by decide +kernel), TB_of 83 (by decide +kernel) (by decide +kernel), by decide +kernel, by decide +kernel, by decide +kernel⟩
theorem ks_X5_in : LkS yX5_in cX5_in 3 (some .boolean) 3 := ⟨kc_X5_in, TB_of 623 (by decide +kernel) (by decide +kernel)⟩
theorem kc_X5_answers : LkC yX5_answers cX5_answers 3 (some .int) 2 := ⟨TB_of 675 (by decide +kernel) (by decide +kernel), TB_of 83 (by decide +kernel) (by decide +kernel), by decide +kernel, by decide +kernel, by decide +kernel⟩
theorem kv_X5_answers : LkV yX5_answers cX5_answers 3 (some .int) 2 := ⟨kc_X5_answers, TB_of 674 (by decide +kernel) (by decide +kernel), TB_of 57 (by decide +kernel) (by decide +kernel)⟩
theorem kc_X5_bad : LkC yX5_bad cX5_bad 1 (some .int) 0 := ⟨TB_of 727 (by decide +kernel) (by decide +kernel), TB_of 83 (by decide +kernel) (by decide +kernel), by decide +kernel, by decide +kernel, by decide +kernel⟩
theorem kv_X5_bad : LkV yX5_bad cX5_bad 1 (some .int) 0 := ⟨kc_X5_bad, TB_of 726 (by decide +kernel) (by decide +kernel), TB_of 64 (by decide +kernel) (by decide +kernel)⟩
theorem kc_X5_top : LkC yX5_top cX5_top 1 (some .int) 0 := ⟨TB_of 640 (by decide +kernel) (by decide +kernel), TB_of 83 (by decide +kernel) (by decide +kernel), by decide +kernel, by decide +kernel, by decide +kernel⟩
theorem kv_X5_top : LkV yX5_top cX5_top 1 (some .int) 0 := ⟨kc_X5_top, TB_of 639 (by decide +kernel) (by decide +kernel), TB_of 49 (by decide +kernel) (by decide +kernel)⟩
theorem kc_X5_wide : LkC yX5_wide cX5_wide 1 (some .int) 1 := ⟨TB_of 643 (by decide +kernel) (by decide +kernel), TB_of 83 (by decide +kernel) (by decide +kernel), by decide +kernel, by decide +kernel, by decide +kernel⟩
theorem ks_X5_wide : LkS yX5_wide cX5_wide 1 (some .int) 1 := ⟨kc_X5_wide, TB_of 642 (by decide +kernel) (by decide +kernel)⟩
theorem kc_X5_most : LkC yX5_most cX5_most 2 (some .int) 1 := ⟨TB_of 651 (by decide +kernel) (by decide +kernel), TB_of 83 (by decide +kernel) (by decide +kernel), by decide +kernel, by decide +kernel, by decide +kernel⟩
theorem kv_X5_most : LkV yX5_most cX5_most 2 (some .int) 1 := ⟨kc_X5_most, TB_of 650 (by decide +kernel) (by decide +kernel), TB_of 51 (by decide +kernel) (by decide +kernel)⟩
theorem kc_X5_least : LkC yX5_least cX5_least 2 (some .int) 1 := ⟨TB_of 695 (by decide +kernel) (by decide +kernel), TB_of 83 (by decide +kernel) (by decide +kernel), by decide +kernel, by decide +kernel, by decide +kernel⟩
theorem kv_X5_least : LkV yX5_least cX5_least 2 (some .int) 1 := ⟨kc_X5_least, TB_of 694 (by decide +kernel) (by decide +kernel), TB_of 61 (by decide +kernel) (by decide +kernel)⟩
theorem kc_X5_keysIn : LkC yX5_keysIn cX5_keysIn 5 (some .int) 2 := ⟨TB_of 647 (by decide +kernel) (by decide +kernel), TB_of 83 (by decide +kernel) (by decide +kernel), by decide +kernel, by decide +kernel, by decide +kernel⟩
theorem kv_X5_keysIn : LkV yX5_keysIn cX5_keysIn 5 (some .int) 2 := ⟨kc_X5_keysIn, TB_of 646 (by decide +kernel) (by decide +kernel), TB_of 50 (by decide +kernel) (by decide +kernel)⟩
theorem kc_X5_cellOf : LkC yX5_cellOf cX5_cellOf 4 (some .int) 1 := ⟨TB_of 628 (by decide +kernel) (by decide +kernel), TB_of 83 (by decide +kernel) (by decide +kernel), by decide +kernel, by decide +kernel, by decide +kernel⟩
theorem kv_X5_cellOf : LkV yX5_cellOf cX5_cellOf 4 (some .int) 1 := ⟨kc_X5_cellOf, TB_of 627 (by decide +kernel) (by decide +kernel), TB_of 46 (by decide +kernel) (by decide +kernel)⟩
theorem kc_X5_lays : LkC yX5_lays cX5_lays 4 none 3 := ⟨TB_of 663 (by decide +kernel) (by decide +kernel), TB_of 83 (by decide +kernel) (by decide +kernel), by decide +kernel, by decide +kernel, by decide +kernel⟩
theorem kv_X5_lays : LkV yX5_lays cX5_lays 4 none 3 := ⟨kc_X5_lays, TB_of 662 (by decide +kernel) (by decide +kernel), TB_of 54 (by decide +kernel) (by decide +kernel)⟩
theorem kc_X5_takesOut : LkC yX5_takesOut cX5_takesOut 6 none 4 := ⟨TB_of 659 (by decide +kernel) (by decide +kernel), TB_of 83 (by decide +kernel) (by decide +kernel), by decide +kernel, by decide +kernel, by decide +kernel⟩
theorem kv_X5_takesOut : LkV yX5_takesOut cX5_takesOut 6 none 4 := ⟨kc_X5_takesOut, TB_of 658 (by decide +kernel) (by decide +kernel), TB_of 53 (by decide +kernel) (by decide +kernel)⟩
theorem kc_X5_putsBack : LkC yX5_putsBack cX5_putsBack 8 (some .int) 2 := ⟨TB_of 667 (by decide +kernel) (by decide +kernel), TB_of 83 (by decide +kernel) (by decide +kernel), by decide +kernel, by decide +kernel, by decide +kernel⟩
theorem kv_X5_putsBack : LkV yX5_putsBack cX5_putsBack 8 (some .int) 2 := ⟨kc_X5_putsBack, TB_of 666 (by decide +kernel) (by decide +kernel), TB_of 55 (by decide +kernel) (by decide +kernel)⟩
theorem kc_X5_spacesWindow : LkC yX5_spacesWindow cX5_spacesWindow 5 (some .int) 4 := ⟨TB_of 655 (by decide +kernel) (by decide +kernel), TB_of 83 (by decide +kernel) (by decide +kernel), by decide +kernel, by decide +kernel, by decide +kernel⟩
theorem kv_X5_spacesWindow : LkV yX5_spacesWindow cX5_spacesWindow 5 (some .int) 4 := ⟨kc_X5_spacesWindow, TB_of 654 (by decide +kernel) (by decide +kernel), TB_of 52 (by decide +kernel) (by decide +kernel)⟩
theorem kc_X5_segmentFor : LkC yX5_segmentFor cX5_segmentFor 4 (some .int) 1 := ⟨TB_of 636 (by decide +kernel) (by decide +kernel), TB_of 83 (by decide +kernel) (by decide +kernel), by decide +kernel, by decide +kernel, by decide +kernel⟩
theorem kv_X5_segmentFor : LkV yX5_segmentFor cX5_segmentFor 4 (some .int) 1 := ⟨kc_X5_segmentFor, TB_of 635 (by decide +kernel) (by decide +kernel), TB_of 48 (by decide +kernel) (by decide +kernel)⟩
theorem kc_X5_comes : LkC yX5_comes cX5_comes 6 (some .int) 2 := ⟨TB_of 632 (by decide +kernel) (by decide +kernel), TB_of 83 (by decide +kernel) (by decide +kernel), by decide +kernel, by decide +kernel, by decide +kernel⟩
theorem kv_X5_comes : LkV yX5_comes cX5_comes 6 (some .int) 2 := ⟨kc_X5_comes, TB_of 631 (by decide +kernel) (by decide +kernel), TB_of 47 (by decide +kernel) (by decide +kernel)⟩
theorem kc_X5_goes : LkC yX5_goes cX5_goes 4 none 1 := ⟨TB_of 691 (by decide +kernel) (by decide +kernel), TB_of 83 (by decide +kernel) (by decide +kernel), by decide +kernel, by decide +kernel, by decide +kernel⟩
theorem kv_X5_goes : LkV yX5_goes cX5_goes 4 none 1 := ⟨kc_X5_goes, TB_of 690 (by decide +kernel) (by decide +kernel), TB_of 60 (by decide +kernel) (by decide +kernel)⟩
theorem kc_X5_putOf : LkC yX5_putOf cX5_putOf 5 (some .int) 2 := ⟨TB_of 621 (by decide +kernel) (by decide +kernel), TB_of 83 (by decide +kernel) (by decide +kernel), by decide +kernel, by decide +kernel, by decide +kernel⟩
theorem kv_X5_putOf : LkV yX5_putOf cX5_putOf 5 (some .int) 2 := ⟨kc_X5_putOf, TB_of 620 (by decide +kernel) (by decide +kernel), TB_of 45 (by decide +kernel) (by decide +kernel)⟩
theorem kc_X5_takeOf : LkC yX5_takeOf cX5_takeOf 4 (some .int) 1 := ⟨TB_of 687 (by decide +kernel) (by decide +kernel), TB_of 83 (by decide +kernel) (by decide +kernel), by decide +kernel, by decide +kernel, by decide +kernel⟩
theorem kv_X5_takeOf : LkV yX5_takeOf cX5_takeOf 4 (some .int) 1 := ⟨kc_X5_takeOf, TB_of 686 (by decide +kernel) (by decide +kernel), TB_of 59 (by decide +kernel) (by decide +kernel)⟩
theorem kc_X5_dropOf : LkC yX5_dropOf cX5_dropOf 6 (some .int) 2 := ⟨TB_of 703 (by decide +kernel) (by decide +kernel), TB_of 83 (by decide +kernel) (by decide +kernel), by decide +kernel, by decide +kernel, by decide +kernel⟩
theorem kv_X5_dropOf : LkV yX5_dropOf cX5_dropOf 6 (some .int) 2 := ⟨kc_X5_dropOf, TB_of 702 (by decide +kernel) (by decide +kernel), TB_of 62 (by decide +kernel) (by decide +kernel)⟩
theorem kc_X5_modeOf : LkC yX5_modeOf cX5_modeOf 3 (some .int) 1 := ⟨TB_of 711 (by decide +kernel) (by decide +kernel), TB_of 83 (by decide +kernel) (by decide +kernel), by decide +kernel, by decide +kernel, by decide +kernel⟩
theorem kv_X5_modeOf : LkV yX5_modeOf cX5_modeOf 3 (some .int) 1 := ⟨kc_X5_modeOf, TB_of 710 (by decide +kernel) (by decide +kernel), TB_of 63 (by decide +kernel) (by decide +kernel)⟩
theorem kc_X5_laysAside : LkC yX5_laysAside cX5_laysAside 2 none 0 := ⟨TB_of 617 (by decide +kernel) (by decide +kernel), TB_of 83 (by decide +kernel) (by decide +kernel), by decide +kernel, by decide +kernel, by decide +kernel⟩
theorem kv_X5_laysAside : LkV yX5_laysAside cX5_laysAside 2 none 0 := ⟨kc_X5_laysAside, TB_of 616 (by decide +kernel) (by decide +kernel), TB_of 44 (by decide +kernel) (by decide +kernel)⟩
theorem kc_X5_comesBack : LkC yX5_comesBack cX5_comesBack 2 none 0 := ⟨TB_of 819 (by decide +kernel) (by decide +kernel), TB_of 83 (by decide +kernel) (by decide +kernel), by decide +kernel, by decide +kernel, by decide +kernel⟩
theorem kv_X5_comesBack : LkV yX5_comesBack cX5_comesBack 2 none 0 := ⟨kc_X5_comesBack, TB_of 818 (by decide +kernel) (by decide +kernel), TB_of 75 (by decide +kernel) (by decide +kernel)⟩
theorem kc_X5_leaves : LkC yX5_leaves cX5_leaves 2 none 0 := ⟨TB_of 679 (by decide +kernel) (by decide +kernel), TB_of 83 (by decide +kernel) (by decide +kernel), by decide +kernel, by decide +kernel, by decide +kernel⟩
theorem kv_X5_leaves : LkV yX5_leaves cX5_leaves 2 none 0 := ⟨kc_X5_leaves, TB_of 678 (by decide +kernel) (by decide +kernel), TB_of 58 (by decide +kernel) (by decide +kernel)⟩
theorem kc_X5_done : LkC yX5_done cX5_done 2 (some .int) 1 := ⟨TB_of 671 (by decide +kernel) (by decide +kernel), TB_of 83 (by decide +kernel) (by decide +kernel), by decide +kernel, by decide +kernel, by decide +kernel⟩
theorem kv_X5_done : LkV yX5_done cX5_done 2 (some .int) 1 := ⟨kc_X5_done, TB_of 670 (by decide +kernel) (by decide +kernel), TB_of 56 (by decide +kernel) (by decide +kernel)⟩
theorem kc_X5_puts : LkC yX5_puts cX5_puts 3 (some .int) 2 := ⟨TB_of 613 (by decide +kernel) (by decide +kernel), TB_of 83 (by decide +kernel) (by decide +kernel), by decide +kernel, by decide +kernel, by decide +kernel⟩
theorem kv_X5_puts : LkV yX5_puts cX5_puts 3 (some .int) 2 := ⟨kc_X5_puts, TB_of 611 (by decide +kernel) (by decide +kernel), TB_of 612 (by decide +kernel) (by decide +kernel)⟩
theorem kc_X5_takes : LkC yX5_takes cX5_takes 2 (some .int) 1 := ⟨TB_of 683 (by decide +kernel) (by decide +kernel), TB_of 83 (by decide +kernel) (by decide +kernel), by decide +kernel, by decide +kernel, by decide +kernel⟩
theorem kv_X5_takes : LkV yX5_takes cX5_takes 2 (some .int) 1 := ⟨kc_X5_takes, TB_of 681 (by decide +kernel) (by decide +kernel), TB_of 682 (by decide +kernel) (by decide +kernel)⟩
theorem kc_X5_drops : LkC yX5_drops cX5_drops 3 (some .int) 2 := ⟨TB_of 699 (by decide +kernel) (by decide +kernel), TB_of 83 (by decide +kernel) (by decide +kernel), by decide +kernel, by decide +kernel, by decide +kernel⟩
theorem kv_X5_drops : LkV yX5_drops cX5_drops 3 (some .int) 2 := ⟨kc_X5_drops, TB_of 697 (by decide +kernel) (by decide +kernel), TB_of 698 (by decide +kernel) (by decide +kernel)⟩
theorem kc_X5_mode : LkC yX5_mode cX5_mode 2 (some .int) 1 := ⟨TB_of 707 (by decide +kernel) (by decide +kernel), TB_of 83 (by decide +kernel) (by decide +kernel), by decide +kernel, by decide +kernel, by decide +kernel⟩
theorem kv_X5_mode : LkV yX5_mode cX5_mode 2 (some .int) 1 := ⟨kc_X5_mode, TB_of 705 (by decide +kernel) (by decide +kernel), TB_of 706 (by decide +kernel) (by decide +kernel)⟩
theorem kc_X5_spaces : LkC yX5_spaces cX5_spaces 1 (some .int) 0 := ⟨TB_of 715 (by decide +kernel) (by decide +kernel), TB_of 83 (by decide +kernel) (by decide +kernel), by decide +kernel, by decide +kernel, by decide +kernel⟩
theorem kv_X5_spaces : LkV yX5_spaces cX5_spaces 1 (some .int) 0 := ⟨kc_X5_spaces, TB_of 713 (by decide +kernel) (by decide +kernel), TB_of 714 (by decide +kernel) (by decide +kernel)⟩
theorem kc_X5_back : LkC yX5_back cX5_back 2 (some .int) 0 := ⟨TB_of 719 (by decide +kernel) (by decide +kernel), TB_of 83 (by decide +kernel) (by decide +kernel), by decide +kernel, by decide +kernel, by decide +kernel⟩
theorem kv_X5_back : LkV yX5_back cX5_back 2 (some .int) 0 := ⟨kc_X5_back, TB_of 717 (by decide +kernel) (by decide +kernel), TB_of 718 (by decide +kernel) (by decide +kernel)⟩
theorem kc_X5_value : LkC yX5_value cX5_value 3 (some .int) 1 := ⟨TB_of 723 (by decide +kernel) (by decide +kernel), TB_of 83 (by decide +kernel) (by decide +kernel), by decide +kernel, by decide +kernel, by decide +kernel⟩
theorem kv_X5_value : LkV yX5_value cX5_value 3 (some .int) 1 := ⟨kc_X5_value, TB_of 721 (by decide +kernel) (by decide +kernel), TB_of 722 (by decide +kernel) (by decide +kernel)⟩
theorem kc_X5_cell : LkC yX5_cell cX5_cell 2 (some .int) 1 := ⟨TB_of 731 (by decide +kernel) (by decide +kernel), TB_of 83 (by decide +kernel) (by decide +kernel), by decide +kernel, by decide +kernel, by decide +kernel⟩
theorem kv_X5_cell : LkV yX5_cell cX5_cell 2 (some .int) 1 := ⟨kc_X5_cell, TB_of 729 (by decide +kernel) (by decide +kernel), TB_of 730 (by decide +kernel) (by decide +kernel)⟩
theorem kc_X5_at : LkC yX5_at cX5_at 2 (some .int) 1 := ⟨TB_of 735 (by decide +kernel) (by decide +kernel), TB_of 83 (by decide +kernel) (by decide +kernel), by decide +kernel, by decide +kernel, by decide +kernel⟩
theorem kv_X5_at : LkV yX5_at cX5_at 2 (some .int) 1 := ⟨kc_X5_at, TB_of 733 (by decide +kernel) (by decide +kernel), TB_of 734 (by decide +kernel) (by decide +kernel)⟩
theorem kc_X5_below : LkC yX5_below cX5_below 4 (some .int) 1 := ⟨TB_of 743 (by decide +kernel) (by decide +kernel), TB_of 83 (by decide +kernel) (by decide +kernel), by decide +kernel, by decide +kernel, by decide +kernel⟩
theorem kv_X5_below : LkV yX5_below cX5_below 4 (some .int) 1 := ⟨kc_X5_below, TB_of 742 (by decide +kernel) (by decide +kernel), TB_of 65 (by decide +kernel) (by decide +kernel)⟩
theorem kc_X5_rank : LkC yX5_rank cX5_rank 2 (some .int) 1 := ⟨TB_of 739 (by decide +kernel) (by decide +kernel), TB_of 83 (by decide +kernel) (by decide +kernel), by decide +kernel, by decide +kernel, by decide +kernel⟩
theorem kv_X5_rank : LkV yX5_rank cX5_rank 2 (some .int) 1 := ⟨kc_X5_rank, TB_of 737 (by decide +kernel) (by decide +kernel), TB_of 738 (by decide +kernel) (by decide +kernel)⟩
theorem kc_X5_key : LkC yX5_key cX5_key 4 (some .int) 1 := ⟨TB_of 747 (by decide +kernel) (by decide +kernel), TB_of 83 (by decide +kernel) (by decide +kernel), by decide +kernel, by decide +kernel, by decide +kernel⟩
theorem kv_X5_key : LkV yX5_key cX5_key 4 (some .int) 1 := ⟨kc_X5_key, TB_of 745 (by decide +kernel) (by decide +kernel), TB_of 746 (by decide +kernel) (by decide +kernel)⟩
theorem kc_X5_scan : LkC yX5_scan cX5_scan 9 (some .int) 3 := ⟨TB_of 751 (by decide +kernel) (by decide +kernel), TB_of 83 (by decide +kernel) (by decide +kernel), by decide +kernel, by decide +kernel, by decide +kernel⟩
theorem kv_X5_scan : LkV yX5_scan cX5_scan 9 (some .int) 3 := ⟨kc_X5_scan, TB_of 749 (by decide +kernel) (by decide +kernel), TB_of 750 (by decide +kernel) (by decide +kernel)⟩
theorem kc_X5_leastOf : LkC yX5_leastOf cX5_leastOf 4 (some .int) 1 := ⟨TB_of 759 (by decide +kernel) (by decide +kernel), TB_of 83 (by decide +kernel) (by decide +kernel), by decide +kernel, by decide +kernel, by decide +kernel⟩
theorem kv_X5_leastOf : LkV yX5_leastOf cX5_leastOf 4 (some .int) 1 := ⟨kc_X5_leastOf, TB_of 758 (by decide +kernel) (by decide +kernel), TB_of 66 (by decide +kernel) (by decide +kernel)⟩
theorem kc_X5_index : LkC yX5_index cX5_index 2 (some .int) 1 := ⟨TB_of 755 (by decide +kernel) (by decide +kernel), TB_of 83 (by decide +kernel) (by decide +kernel), by decide +kernel, by decide +kernel, by decide +kernel⟩
theorem kv_X5_index : LkV yX5_index cX5_index 2 (some .int) 1 := ⟨kc_X5_index, TB_of 753 (by decide +kernel) (by decide +kernel), TB_of 754 (by decide +kernel) (by decide +kernel)⟩
theorem kc_X5_window : LkC yX5_window cX5_window 4 (some .int) 3 := ⟨TB_of 763 (by decide +kernel) (by decide +kernel), TB_of 83 (by decide +kernel) (by decide +kernel), by decide +kernel, by decide +kernel, by decide +kernel⟩
theorem kv_X5_window : LkV yX5_window cX5_window 4 (some .int) 3 := ⟨kc_X5_window, TB_of 761 (by decide +kernel) (by decide +kernel), TB_of 762 (by decide +kernel) (by decide +kernel)⟩
theorem kc_X5_countOf : LkC yX5_countOf cX5_countOf 2 (some .int) 1 := ⟨TB_of 771 (by decide +kernel) (by decide +kernel), TB_of 83 (by decide +kernel) (by decide +kernel), by decide +kernel, by decide +kernel, by decide +kernel⟩
theorem kv_X5_countOf : LkV yX5_countOf cX5_countOf 2 (some .int) 1 := ⟨kc_X5_countOf, TB_of 770 (by decide +kernel) (by decide +kernel), TB_of 67 (by decide +kernel) (by decide +kernel)⟩
theorem kc_X5_count : LkC yX5_count cX5_count 2 (some .int) 1 := ⟨TB_of 767 (by decide +kernel) (by decide +kernel), TB_of 83 (by decide +kernel) (by decide +kernel), by decide +kernel, by decide +kernel, by decide +kernel⟩
theorem kv_X5_count : LkV yX5_count cX5_count 2 (some .int) 1 := ⟨kc_X5_count, TB_of 765 (by decide +kernel) (by decide +kernel), TB_of 766 (by decide +kernel) (by decide +kernel)⟩
theorem kc_X5_log : LkC yX5_log cX5_log 3 (some .int) 2 := ⟨TB_of 775 (by decide +kernel) (by decide +kernel), TB_of 83 (by decide +kernel) (by decide +kernel), by decide +kernel, by decide +kernel, by decide +kernel⟩
theorem kv_X5_log : LkV yX5_log cX5_log 3 (some .int) 2 := ⟨kc_X5_log, TB_of 773 (by decide +kernel) (by decide +kernel), TB_of 774 (by decide +kernel) (by decide +kernel)⟩
theorem kc_X5_type : LkC yX5_type cX5_type 2 (some .int) 1 := ⟨TB_of 779 (by decide +kernel) (by decide +kernel), TB_of 83 (by decide +kernel) (by decide +kernel), by decide +kernel, by decide +kernel, by decide +kernel⟩
theorem kv_X5_type : LkV yX5_type cX5_type 2 (some .int) 1 := ⟨kc_X5_type, TB_of 777 (by decide +kernel) (by decide +kernel), TB_of 778 (by decide +kernel) (by decide +kernel)⟩
theorem kc_X5_clear : LkC yX5_clear cX5_clear 2 (some .int) 0 := ⟨TB_of 783 (by decide +kernel) (by decide +kernel), TB_of 83 (by decide +kernel) (by decide +kernel), by decide +kernel, by decide +kernel, by decide +kernel⟩
theorem kv_X5_clear : LkV yX5_clear cX5_clear 2 (some .int) 0 := ⟨kc_X5_clear, TB_of 781 (by decide +kernel) (by decide +kernel), TB_of 782 (by decide +kernel) (by decide +kernel)⟩
theorem kc_X5_blanks : LkC yX5_blanks cX5_blanks 1 none 0 := ⟨TB_of 795 (by decide +kernel) (by decide +kernel), TB_of 83 (by decide +kernel) (by decide +kernel), by decide +kernel, by decide +kernel, by decide +kernel⟩
theorem kv_X5_blanks : LkV yX5_blanks cX5_blanks 1 none 0 := ⟨kc_X5_blanks, TB_of 794 (by decide +kernel) (by decide +kernel), TB_of 69 (by decide +kernel) (by decide +kernel)⟩
theorem kc_X5_isFigure : LkC yX5_isFigure cX5_isFigure 1 (some .boolean) 0 := ⟨TB_of 807 (by decide +kernel) (by decide +kernel), TB_of 83 (by decide +kernel) (by decide +kernel), by decide +kernel, by decide +kernel, by decide +kernel⟩
theorem kv_X5_isFigure : LkV yX5_isFigure cX5_isFigure 1 (some .boolean) 0 := ⟨kc_X5_isFigure, TB_of 806 (by decide +kernel) (by decide +kernel), TB_of 72 (by decide +kernel) (by decide +kernel)⟩
theorem kc_X5_number : LkC yX5_number cX5_number 3 (some .int) 0 := ⟨TB_of 803 (by decide +kernel) (by decide +kernel), TB_of 83 (by decide +kernel) (by decide +kernel), by decide +kernel, by decide +kernel, by decide +kernel⟩
theorem kv_X5_number : LkV yX5_number cX5_number 3 (some .int) 0 := ⟨kc_X5_number, TB_of 802 (by decide +kernel) (by decide +kernel), TB_of 71 (by decide +kernel) (by decide +kernel)⟩
theorem kc_X5_sign : LkC yX5_sign cX5_sign 2 none 1 := ⟨TB_of 811 (by decide +kernel) (by decide +kernel), TB_of 83 (by decide +kernel) (by decide +kernel), by decide +kernel, by decide +kernel, by decide +kernel⟩
theorem kv_X5_sign : LkV yX5_sign cX5_sign 2 none 1 := ⟨kc_X5_sign, TB_of 810 (by decide +kernel) (by decide +kernel), TB_of 73 (by decide +kernel) (by decide +kernel)⟩
theorem kc_X5_readsOrder : LkC yX5_readsOrder cX5_readsOrder 5 none 0 := ⟨TB_of 799 (by decide +kernel) (by decide +kernel), TB_of 83 (by decide +kernel) (by decide +kernel), by decide +kernel, by decide +kernel, by decide +kernel⟩
theorem kv_X5_readsOrder : LkV yX5_readsOrder cX5_readsOrder 5 none 0 := ⟨kc_X5_readsOrder, TB_of 798 (by decide +kernel) (by decide +kernel), TB_of 70 (by decide +kernel) (by decide +kernel)⟩
theorem kc_X5_reads : LkC yX5_reads cX5_reads 1 none 0 := ⟨TB_of 791 (by decide +kernel) (by decide +kernel), TB_of 83 (by decide +kernel) (by decide +kernel), by decide +kernel, by decide +kernel, by decide +kernel⟩
theorem kv_X5_reads : LkV yX5_reads cX5_reads 1 none 0 := ⟨kc_X5_reads, TB_of 790 (by decide +kernel) (by decide +kernel), TB_of 68 (by decide +kernel) (by decide +kernel)⟩
theorem kc_X5_doneBy : LkC yX5_doneBy cX5_doneBy 4 (some .int) 1 := ⟨TB_of 815 (by decide +kernel) (by decide +kernel), TB_of 83 (by decide +kernel) (by decide +kernel), by decide +kernel, by decide +kernel, by decide +kernel⟩
theorem kv_X5_doneBy : LkV yX5_doneBy cX5_doneBy 4 (some .int) 1 := ⟨kc_X5_doneBy, TB_of 814 (by decide +kernel) (by decide +kernel), TB_of 74 (by decide +kernel) (by decide +kernel)⟩
theorem kc_X5_does : LkC yX5_does cX5_does 2 (some .int) 0 := ⟨TB_of 787 (by decide +kernel) (by decide +kernel), TB_of 83 (by decide +kernel) (by decide +kernel), by decide +kernel, by decide +kernel, by decide +kernel⟩
theorem kv_X5_does : LkV yX5_does cX5_does 2 (some .int) 0 := ⟨kc_X5_does, TB_of 785 (by decide +kernel) (by decide +kernel), TB_of 786 (by decide +kernel) (by decide +kernel)⟩
theorem kc_X5_toldOf : LkC yX5_toldOf cX5_toldOf 2 (some .int) 1 := ⟨TB_of 827 (by decide +kernel) (by decide +kernel), TB_of 83 (by decide +kernel) (by decide +kernel), by decide +kernel, by decide +kernel, by decide +kernel⟩
theorem kv_X5_toldOf : LkV yX5_toldOf cX5_toldOf 2 (some .int) 1 := ⟨kc_X5_toldOf, TB_of 826 (by decide +kernel) (by decide +kernel), TB_of 76 (by decide +kernel) (by decide +kernel)⟩
theorem kc_X5_told : LkC yX5_told cX5_told 2 (some .int) 1 := ⟨TB_of 823 (by decide +kernel) (by decide +kernel), TB_of 83 (by decide +kernel) (by decide +kernel), by decide +kernel, by decide +kernel, by decide +kernel⟩
theorem kv_X5_told : LkV yX5_told cX5_told 2 (some .int) 1 := ⟨kc_X5_told, TB_of 821 (by decide +kernel) (by decide +kernel), TB_of 822 (by decide +kernel) (by decide +kernel)⟩
theorem kc_X5_digest : LkC yX5_digest cX5_digest 4 (some .long) 0 := ⟨TB_of 831 (by decide +kernel) (by decide +kernel), TB_of 83 (by decide +kernel) (by decide +kernel), by decide +kernel, by decide +kernel, by decide +kernel⟩
theorem kv_X5_digest : LkV yX5_digest cX5_digest 4 (some .long) 0 := ⟨kc_X5_digest, TB_of 829 (by decide +kernel) (by decide +kernel), TB_of 830 (by decide +kernel) (by decide +kernel)⟩
theorem kc_J9_min_7cf53 : LkC yJ9_min_7cf53 cJ9_min_7cf53 2 (some .int) 2 := ⟨TB_of 351 (by decide +kernel) (by decide +kernel), TB_of 84 (by decide +kernel) (by decide +kernel), by decide +kernel, by decide +kernel, by decide +kernel⟩
theorem ks_J9_min_7cf53 : LkS yJ9_min_7cf53 cJ9_min_7cf53 2 (some .int) 2 := ⟨kc_J9_min_7cf53, TB_of 350 (by decide +kernel) (by decide +kernel)⟩
theorem cl_L_7 : Cond.classLink RL 7 RX4 ∈ TB := TB_of 85 (by decide +kernel) (by decide +kernel)
theorem ml_L_9 : LkM RL 9 yX4_init := Or.inl (TB_of 87 (by decide +kernel) (by decide +kernel))
theorem cl_X4_7 : Cond.classLink RX4 7 RX1 ∈ TB := TB_of 93 (by decide +kernel) (by decide +kernel)
theorem ml_X4_9 : LkM RX4 9 yX1_init := Or.inr ⟨"GapRow", TB_of 95 (by decide +kernel) (by decide +kernel)⟩
theorem fk_X1_9 : LkF RX1 9 1 0 := ⟨(RX1, TX1, 12), rfl, by decide, in_X1, Or.inl (TB_of 99 (by decide +kernel) (by decide +kernel))⟩
theorem fk_X2_21 : LkF RX2 21 1 0 := ⟨(RX1, TX1, 12), rfl, by decide, in_X1, Or.inr ⟨"GapRow", TB_of 100 (by decide +kernel) (by decide +kernel)⟩⟩
theorem fk_X4_56 : LkF RX4 56 1 0 := ⟨(RX1, TX1, 12), rfl, by decide, in_X1, Or.inr ⟨"GapRow", TB_of 101 (by decide +kernel) (by decide +kernel)⟩⟩
theorem fk_X1_31 : LkF RX1 31 1 1 := ⟨(RX1, TX1, 12), rfl, by decide, in_X1, Or.inl (TB_of 102 (by decide +kernel) (by decide +kernel))⟩
theorem fk_X2_107 : LkF RX2 107 1 1 := ⟨(RX1, TX1, 12), rfl, by decide, in_X1, Or.inr ⟨"GapRow", TB_of 103 (by decide +kernel) (by decide +kernel)⟩⟩
theorem fk_X4_188 : LkF RX4 188 1 1 := ⟨(RX1, TX1, 12), rfl, by decide, in_X1, Or.inr ⟨"GapRow", TB_of 104 (by decide +kernel) (by decide +kernel)⟩⟩
theorem fk_X1_34 : LkF RX1 34 1 2 := ⟨(RX1, TX1, 12), rfl, by decide, in_X1, Or.inl (TB_of 105 (by decide +kernel) (by decide +kernel))⟩
theorem fk_X4_201 : LkF RX4 201 1 2 := ⟨(RX1, TX1, 12), rfl, by decide, in_X1, Or.inr ⟨"GapRow", TB_of 106 (by decide +kernel) (by decide +kernel)⟩⟩
theorem fk_X1_37 : LkF RX1 37 1 3 := ⟨(RX1, TX1, 12), rfl, by decide, in_X1, Or.inl (TB_of 107 (by decide +kernel) (by decide +kernel))⟩
theorem fk_X4_204 : LkF RX4 204 1 3 := ⟨(RX1, TX1, 12), rfl, by decide, in_X1, Or.inr ⟨"GapRow", TB_of 108 (by decide +kernel) (by decide +kernel)⟩⟩
theorem fk_X1_40 : LkF RX1 40 1 4 := ⟨(RX1, TX1, 12), rfl, by decide, in_X1, Or.inl (TB_of 109 (by decide +kernel) (by decide +kernel))⟩
theorem fk_X2_67 : LkF RX2 67 1 4 := ⟨(RX1, TX1, 12), rfl, by decide, in_X1, Or.inr ⟨"GapRow", TB_of 110 (by decide +kernel) (by decide +kernel)⟩⟩
theorem fk_X4_207 : LkF RX4 207 1 4 := ⟨(RX1, TX1, 12), rfl, by decide, in_X1, Or.inr ⟨"GapRow", TB_of 111 (by decide +kernel) (by decide +kernel)⟩⟩
theorem fk_X1_43 : LkF RX1 43 1 5 := ⟨(RX1, TX1, 12), rfl, by decide, in_X1, Or.inl (TB_of 112 (by decide +kernel) (by decide +kernel))⟩
theorem fk_X2_95 : LkF RX2 95 1 5 := ⟨(RX1, TX1, 12), rfl, by decide, in_X1, Or.inr ⟨"GapRow", TB_of 113 (by decide +kernel) (by decide +kernel)⟩⟩
theorem fk_X4_210 : LkF RX4 210 1 5 := ⟨(RX1, TX1, 12), rfl, by decide, in_X1, Or.inr ⟨"GapRow", TB_of 114 (by decide +kernel) (by decide +kernel)⟩⟩
theorem fk_X1_46 : LkF RX1 46 1 6 := ⟨(RX1, TX1, 12), rfl, by decide, in_X1, Or.inl (TB_of 115 (by decide +kernel) (by decide +kernel))⟩
theorem fk_X4_168 : LkF RX4 168 1 6 := ⟨(RX1, TX1, 12), rfl, by decide, in_X1, Or.inr ⟨"GapRow", TB_of 116 (by decide +kernel) (by decide +kernel)⟩⟩
theorem fk_X1_15 : LkF RX1 15 1 7 := ⟨(RX1, TX1, 12), rfl, by decide, in_X1, Or.inl (TB_of 117 (by decide +kernel) (by decide +kernel))⟩
theorem fk_X1_19 : LkF RX1 19 1 8 := ⟨(RX1, TX1, 12), rfl, by decide, in_X1, Or.inl (TB_of 118 (by decide +kernel) (by decide +kernel))⟩
theorem fk_X1_22 : LkF RX1 22 1 9 := ⟨(RX1, TX1, 12), rfl, by decide, in_X1, Or.inl (TB_of 119 (by decide +kernel) (by decide +kernel))⟩
theorem fk_X1_25 : LkF RX1 25 1 10 := ⟨(RX1, TX1, 12), rfl, by decide, in_X1, Or.inl (TB_of 120 (by decide +kernel) (by decide +kernel))⟩
theorem fk_X1_28 : LkF RX1 28 1 11 := ⟨(RX1, TX1, 12), rfl, by decide, in_X1, Or.inl (TB_of 121 (by decide +kernel) (by decide +kernel))⟩
theorem ac_I : Cond.arrayClass .int ∈ TB := TB_of 147 (by decide +kernel) (by decide +kernel)
theorem cl_X4_16 : Cond.classLink RX4 16 RX2 ∈ TB := TB_of 148 (by decide +kernel) (by decide +kernel)
theorem ml_X4_18 : LkM RX4 18 yX2_init := Or.inr ⟨"GapRow", TB_of 150 (by decide +kernel) (by decide +kernel)⟩
theorem fk_X2_9 : LkF RX2 9 2 0 := ⟨(RX2, TX2, 5), rfl, by decide, in_X2, Or.inl (TB_of 154 (by decide +kernel) (by decide +kernel))⟩
theorem fk_X2_15 : LkF RX2 15 2 1 := ⟨(RX2, TX2, 5), rfl, by decide, in_X2, Or.inl (TB_of 155 (by decide +kernel) (by decide +kernel))⟩
theorem fk_X2_18 : LkF RX2 18 2 2 := ⟨(RX2, TX2, 5), rfl, by decide, in_X2, Or.inl (TB_of 156 (by decide +kernel) (by decide +kernel))⟩
theorem fk_X2_98 : LkF RX2 98 2 3 := ⟨(RX2, TX2, 5), rfl, by decide, in_X2, Or.inl (TB_of 157 (by decide +kernel) (by decide +kernel))⟩
theorem fk_X2_101 : LkF RX2 101 2 4 := ⟨(RX2, TX2, 5), rfl, by decide, in_X2, Or.inl (TB_of 158 (by decide +kernel) (by decide +kernel))⟩
theorem cl_X4_23 : Cond.classLink RX4 23 RX3 ∈ TB := TB_of 170 (by decide +kernel) (by decide +kernel)
theorem ml_X4_25 : LkM RX4 25 yX3_init := Or.inr ⟨"GapRow", TB_of 172 (by decide +kernel) (by decide +kernel)⟩
theorem cl_X3_9 : Cond.classLink RX3 9 RX1 ∈ TB := TB_of 176 (by decide +kernel) (by decide +kernel)
theorem ao_R : Cond.arrayOver (.object RX1) ∈ TB := TB_of 177 (by decide +kernel) (by decide +kernel)
theorem ml_X3_17 : LkM RX3 17 yX1_init := Or.inr ⟨"GapRow", TB_of 178 (by decide +kernel) (by decide +kernel)⟩
theorem fk_X3_11 : LkF RX3 11 3 0 := ⟨(RX3, TX3, 2), rfl, by decide, in_X3, Or.inl (TB_of 179 (by decide +kernel) (by decide +kernel))⟩
theorem fk_X3_25 : LkF RX3 25 3 1 := ⟨(RX3, TX3, 2), rfl, by decide, in_X3, Or.inl (TB_of 180 (by decide +kernel) (by decide +kernel))⟩
theorem fk_X4_158 : LkF RX4 158 3 1 := ⟨(RX3, TX3, 2), rfl, by decide, in_X3, Or.inr ⟨"GapRow", TB_of 181 (by decide +kernel) (by decide +kernel)⟩⟩
theorem cl_X4_30 : Cond.classLink RX4 30 RX0 ∈ TB := TB_of 187 (by decide +kernel) (by decide +kernel)
theorem ml_X4_32 : LkM RX4 32 yX0_init := Or.inr ⟨"GapRow", TB_of 189 (by decide +kernel) (by decide +kernel)⟩
theorem fk_X0_32 : LkF RX0 32 0 0 := ⟨(RX0, TX0, 7), rfl, by decide, in_X0, Or.inl (TB_of 193 (by decide +kernel) (by decide +kernel))⟩
theorem fk_X4_133 : LkF RX4 133 0 0 := ⟨(RX0, TX0, 7), rfl, by decide, in_X0, Or.inr ⟨"GapRow", TB_of 194 (by decide +kernel) (by decide +kernel)⟩⟩
theorem fk_X0_38 : LkF RX0 38 0 1 := ⟨(RX0, TX0, 7), rfl, by decide, in_X0, Or.inl (TB_of 195 (by decide +kernel) (by decide +kernel))⟩
theorem fk_X4_136 : LkF RX4 136 0 1 := ⟨(RX0, TX0, 7), rfl, by decide, in_X0, Or.inr ⟨"GapRow", TB_of 196 (by decide +kernel) (by decide +kernel)⟩⟩
theorem fk_X0_41 : LkF RX0 41 0 2 := ⟨(RX0, TX0, 7), rfl, by decide, in_X0, Or.inl (TB_of 197 (by decide +kernel) (by decide +kernel))⟩
theorem fk_X4_139 : LkF RX4 139 0 2 := ⟨(RX0, TX0, 7), rfl, by decide, in_X0, Or.inr ⟨"GapRow", TB_of 198 (by decide +kernel) (by decide +kernel)⟩⟩
theorem fk_X0_9 : LkF RX0 9 0 3 := ⟨(RX0, TX0, 7), rfl, by decide, in_X0, Or.inl (TB_of 199 (by decide +kernel) (by decide +kernel))⟩
theorem fk_X0_15 : LkF RX0 15 0 4 := ⟨(RX0, TX0, 7), rfl, by decide, in_X0, Or.inl (TB_of 200 (by decide +kernel) (by decide +kernel))⟩
theorem fk_X0_29 : LkF RX0 29 0 5 := ⟨(RX0, TX0, 7), rfl, by decide, in_X0, Or.inl (TB_of 201 (by decide +kernel) (by decide +kernel))⟩
theorem fk_X0_19 : LkF RX0 19 0 6 := ⟨(RX0, TX0, 7), rfl, by decide, in_X0, Or.inl (TB_of 202 (by decide +kernel) (by decide +kernel))⟩
theorem fk_X4_10 : LkF RX4 10 4 0 := ⟨(RX4, TX4, 7), rfl, by decide, in_X4, Or.inl (TB_of 218 (by decide +kernel) (by decide +kernel))⟩
theorem fk_X4_19 : LkF RX4 19 4 1 := ⟨(RX4, TX4, 7), rfl, by decide, in_X4, Or.inl (TB_of 219 (by decide +kernel) (by decide +kernel))⟩
theorem fk_X4_26 : LkF RX4 26 4 2 := ⟨(RX4, TX4, 7), rfl, by decide, in_X4, Or.inl (TB_of 220 (by decide +kernel) (by decide +kernel))⟩
theorem fk_X4_33 : LkF RX4 33 4 3 := ⟨(RX4, TX4, 7), rfl, by decide, in_X4, Or.inl (TB_of 221 (by decide +kernel) (by decide +kernel))⟩
theorem fk_X4_37 : LkF RX4 37 4 4 := ⟨(RX4, TX4, 7), rfl, by decide, in_X4, Or.inl (TB_of 222 (by decide +kernel) (by decide +kernel))⟩
theorem fk_X4_41 : LkF RX4 41 4 5 := ⟨(RX4, TX4, 7), rfl, by decide, in_X4, Or.inl (TB_of 223 (by decide +kernel) (by decide +kernel))⟩
theorem fk_X4_45 : LkF RX4 45 4 6 := ⟨(RX4, TX4, 7), rfl, by decide, in_X4, Or.inl (TB_of 224 (by decide +kernel) (by decide +kernel))⟩
theorem ml_L_13 : LkM RL 13 yX4_puts := Or.inl (TB_of 240 (by decide +kernel) (by decide +kernel))
theorem ml_X4_48 : LkM RX4 48 yX4_call := Or.inl (TB_of 244 (by decide +kernel) (by decide +kernel))
theorem ml_X4_142 : LkM RX4 142 yX4_refusalOf := Or.inl (TB_of 248 (by decide +kernel) (by decide +kernel))
theorem ml_X4_63 : LkM RX4 63 yX4_within := Or.inl (TB_of 252 (by decide +kernel) (by decide +kernel))
theorem ml_X4_71 : LkM RX4 71 yX1_cellOf := Or.inr ⟨"GapRow", TB_of 255 (by decide +kernel) (by decide +kernel)⟩
theorem ml_X1_49 : LkM RX1 49 yX1_keyIn := Or.inl (TB_of 259 (by decide +kernel) (by decide +kernel))
theorem ml_X4_171 : LkM RX4 171 yX2_hasRoom := Or.inr ⟨"GapRow", TB_of 263 (by decide +kernel) (by decide +kernel)⟩
theorem ml_X2_27 : LkM RX2 27 yX2_segmentFor := Or.inl (TB_of 266 (by decide +kernel) (by decide +kernel))
theorem ml_X2_34 : LkM RX2 34 yX1_keysBelow := Or.inr ⟨"GapRow", TB_of 269 (by decide +kernel) (by decide +kernel)⟩
theorem ml_X2_38 : LkM RX2 38 yX1_cellNumber := Or.inr ⟨"GapRow", TB_of 273 (by decide +kernel) (by decide +kernel)⟩
theorem ml_X2_31 : LkM RX2 31 yX2_levelFor := Or.inl (TB_of 277 (by decide +kernel) (by decide +kernel))
theorem ml_X2_41 : LkM RX2 41 yX1_top := Or.inr ⟨"GapRow", TB_of 280 (by decide +kernel) (by decide +kernel)⟩
theorem ml_X2_45 : LkM RX2 45 yX2_windowStart := Or.inl (TB_of 284 (by decide +kernel) (by decide +kernel))
theorem ml_X2_49 : LkM RX2 49 yX4_cellsOf := Or.inr ⟨"GapRow", TB_of 287 (by decide +kernel) (by decide +kernel)⟩
theorem ml_X2_52 : LkM RX2 52 yX1_keysIn := Or.inr ⟨"GapRow", TB_of 290 (by decide +kernel) (by decide +kernel)⟩
theorem ml_X2_55 : LkM RX2 55 yX1_most := Or.inr ⟨"GapRow", TB_of 294 (by decide +kernel) (by decide +kernel)⟩
theorem ml_X1_62 : LkM RX1 62 yX4_cellsOf := Or.inr ⟨"GapRow", TB_of 298 (by decide +kernel) (by decide +kernel)⟩
theorem ml_X1_65 : LkM RX1 65 yX1_top := Or.inl (TB_of 299 (by decide +kernel) (by decide +kernel))
theorem ml_X4_86 : LkM RX4 86 yX4_isSpan := Or.inl (TB_of 300 (by decide +kernel) (by decide +kernel))
theorem ml_X4_67 : LkM RX4 67 yX4_refuse := Or.inl (TB_of 303 (by decide +kernel) (by decide +kernel))
theorem ml_X4_52 : LkM RX4 52 yX3_keep := Or.inr ⟨"GapRow", TB_of 307 (by decide +kernel) (by decide +kernel)⟩
theorem ml_X3_18 : LkM RX3 18 yX3_mark := Or.inl (TB_of 311 (by decide +kernel) (by decide +kernel))
theorem ml_X3_29 : LkM RX3 29 yX4_within := Or.inr ⟨"GapRow", TB_of 315 (by decide +kernel) (by decide +kernel)⟩
theorem ml_X3_33 : LkM RX3 33 yX1_copyOf := Or.inr ⟨"GapRow", TB_of 316 (by decide +kernel) (by decide +kernel)⟩
theorem ml_X3_22 : LkM RX3 22 yX3_keepMark := Or.inl (TB_of 320 (by decide +kernel) (by decide +kernel))
theorem ml_X4_148 : LkM RX4 148 yX4_carryOut := Or.inl (TB_of 324 (by decide +kernel) (by decide +kernel))
theorem ml_X4_175 : LkM RX4 175 yX4_putKey := Or.inl (TB_of 328 (by decide +kernel) (by decide +kernel))
theorem ml_X4_191 : LkM RX4 191 yX2_come := Or.inr ⟨"GapRow", TB_of 332 (by decide +kernel) (by decide +kernel)⟩
theorem ml_X2_58 : LkM RX2 58 yX2_takeUp := Or.inl (TB_of 336 (by decide +kernel) (by decide +kernel))
theorem ml_X2_104 : LkM RX2 104 yX1_keyIn := Or.inr ⟨"GapRow", TB_of 340 (by decide +kernel) (by decide +kernel)⟩
theorem ml_X2_78 : LkM RX2 78 yX1_valueIn := Or.inr ⟨"GapRow", TB_of 341 (by decide +kernel) (by decide +kernel)⟩
theorem ml_X2_81 : LkM RX2 81 yX1_fill := Or.inr ⟨"GapRow", TB_of 345 (by decide +kernel) (by decide +kernel)⟩
theorem ml_X2_62 : LkM RX2 62 yJ9_min_7cf53 := Or.inl (TB_of 349 (by decide +kernel) (by decide +kernel))
theorem ml_X2_70 : LkM RX2 70 yX2_takeIn := Or.inl (TB_of 352 (by decide +kernel) (by decide +kernel))
theorem ml_X2_74 : LkM RX2 74 yX2_layDown := Or.inl (TB_of 356 (by decide +kernel) (by decide +kernel))
theorem ml_X2_110 : LkM RX2 110 yX1_note := Or.inr ⟨"GapRow", TB_of 360 (by decide +kernel) (by decide +kernel)⟩
theorem ml_X1_73 : LkM RX1 73 yJ9_min_7cf53 := Or.inl (TB_of 364 (by decide +kernel) (by decide +kernel))
theorem ml_X4_74 : LkM RX4 74 yX1_valueIn := Or.inr ⟨"GapRow", TB_of 365 (by decide +kernel) (by decide +kernel)⟩
theorem ml_X4_194 : LkM RX4 194 yX1_fill := Or.inr ⟨"GapRow", TB_of 366 (by decide +kernel) (by decide +kernel)⟩
theorem ml_X4_178 : LkM RX4 178 yX2_go := Or.inr ⟨"GapRow", TB_of 367 (by decide +kernel) (by decide +kernel)⟩
theorem ml_X2_85 : LkM RX2 85 yX1_least := Or.inr ⟨"GapRow", TB_of 371 (by decide +kernel) (by decide +kernel)⟩
theorem ml_X2_88 : LkM RX2 88 yX2_space := Or.inl (TB_of 375 (by decide +kernel) (by decide +kernel))
theorem ml_X2_91 : LkM RX2 91 yX2_shrink := Or.inl (TB_of 379 (by decide +kernel) (by decide +kernel))
theorem ml_X4_182 : LkM RX4 182 yX4_dropKeys := Or.inl (TB_of 383 (by decide +kernel) (by decide +kernel))
theorem ml_X4_80 : LkM RX4 80 yX1_keysBelow := Or.inr ⟨"GapRow", TB_of 387 (by decide +kernel) (by decide +kernel)⟩
theorem ml_X4_198 : LkM RX4 198 yX1_cellNumber := Or.inr ⟨"GapRow", TB_of 388 (by decide +kernel) (by decide +kernel)⟩
theorem ml_X4_185 : LkM RX4 185 yX4_turnMode := Or.inl (TB_of 389 (by decide +kernel) (by decide +kernel))
theorem ml_L_18 : LkM RL 18 yX4_takes := Or.inl (TB_of 393 (by decide +kernel) (by decide +kernel))
theorem ml_L_23 : LkM RL 23 yX4_drops := Or.inl (TB_of 397 (by decide +kernel) (by decide +kernel))
theorem ml_L_27 : LkM RL 27 yX4_mode := Or.inl (TB_of 401 (by decide +kernel) (by decide +kernel))
theorem ml_L_31 : LkM RL 31 yX4_spaces := Or.inl (TB_of 405 (by decide +kernel) (by decide +kernel))
theorem ml_X4_59 : LkM RX4 59 yX2_space := Or.inr ⟨"GapRow", TB_of 409 (by decide +kernel) (by decide +kernel)⟩
theorem ml_L_36 : LkM RL 36 yX4_value := Or.inl (TB_of 410 (by decide +kernel) (by decide +kernel))
theorem ml_L_40 : LkM RL 40 yX4_cell := Or.inl (TB_of 414 (by decide +kernel) (by decide +kernel))
theorem ml_L_44 : LkM RL 44 yX4_at := Or.inl (TB_of 418 (by decide +kernel) (by decide +kernel))
theorem ml_X4_77 : LkM RX4 77 yX1_keyIn := Or.inr ⟨"GapRow", TB_of 422 (by decide +kernel) (by decide +kernel)⟩
theorem ml_L_48 : LkM RL 48 yX4_rank := Or.inl (TB_of 423 (by decide +kernel) (by decide +kernel))
theorem ml_L_52 : LkM RL 52 yX4_key := Or.inl (TB_of 427 (by decide +kernel) (by decide +kernel))
theorem ml_X4_83 : LkM RX4 83 yX1_keyNumber := Or.inr ⟨"GapRow", TB_of 431 (by decide +kernel) (by decide +kernel)⟩
theorem ml_X1_53 : LkM RX1 53 yX1_cellNumber := Or.inl (TB_of 435 (by decide +kernel) (by decide +kernel))
theorem ml_L_56 : LkM RL 56 yX4_scan := Or.inl (TB_of 436 (by decide +kernel) (by decide +kernel))
theorem ml_X4_89 : LkM RX4 89 yX1_valuesFrom := Or.inr ⟨"GapRow", TB_of 440 (by decide +kernel) (by decide +kernel)⟩
theorem ml_X1_56 : LkM RX1 56 yX1_valueIn := Or.inl (TB_of 444 (by decide +kernel) (by decide +kernel))
theorem ml_X4_93 : LkM RX4 93 yX1_cellsRead := Or.inr ⟨"GapRow", TB_of 445 (by decide +kernel) (by decide +kernel)⟩
theorem ml_X1_59 : LkM RX1 59 yX1_keysBelow := Or.inl (TB_of 449 (by decide +kernel) (by decide +kernel))
theorem ml_L_61 : LkM RL 61 yX4_index := Or.inl (TB_of 450 (by decide +kernel) (by decide +kernel))
theorem ml_X4_96 : LkM RX4 96 yX1_leastKeyOf := Or.inr ⟨"GapRow", TB_of 454 (by decide +kernel) (by decide +kernel)⟩
theorem ml_L_65 : LkM RL 65 yX4_window := Or.inl (TB_of 458 (by decide +kernel) (by decide +kernel))
theorem ml_X4_99 : LkM RX4 99 yX1_top := Or.inr ⟨"GapRow", TB_of 462 (by decide +kernel) (by decide +kernel)⟩
theorem ml_X4_103 : LkM RX4 103 yX4_cellsOf := Or.inl (TB_of 463 (by decide +kernel) (by decide +kernel))
theorem ml_X4_106 : LkM RX4 106 yX1_keysIn := Or.inr ⟨"GapRow", TB_of 464 (by decide +kernel) (by decide +kernel)⟩
theorem ml_X4_109 : LkM RX4 109 yX1_most := Or.inr ⟨"GapRow", TB_of 465 (by decide +kernel) (by decide +kernel)⟩
theorem ml_X4_112 : LkM RX4 112 yX1_least := Or.inr ⟨"GapRow", TB_of 466 (by decide +kernel) (by decide +kernel)⟩
theorem ml_L_69 : LkM RL 69 yX4_count := Or.inl (TB_of 467 (by decide +kernel) (by decide +kernel))
theorem ml_X4_115 : LkM RX4 115 yX4_counted := Or.inl (TB_of 471 (by decide +kernel) (by decide +kernel))
theorem ml_L_73 : LkM RL 73 yX4_log := Or.inl (TB_of 475 (by decide +kernel) (by decide +kernel))
theorem ml_X4_118 : LkM RX4 118 yX1_logged := Or.inr ⟨"GapRow", TB_of 479 (by decide +kernel) (by decide +kernel)⟩
theorem ml_X1_69 : LkM RX1 69 yX4_within := Or.inr ⟨"GapRow", TB_of 483 (by decide +kernel) (by decide +kernel)⟩
theorem ml_L_77 : LkM RL 77 yX4_type := Or.inl (TB_of 484 (by decide +kernel) (by decide +kernel))
theorem ml_L_81 : LkM RL 81 yX4_clear := Or.inl (TB_of 488 (by decide +kernel) (by decide +kernel))
theorem ml_L_85 : LkM RL 85 yX4_does := Or.inl (TB_of 492 (by decide +kernel) (by decide +kernel))
theorem ml_X4_121 : LkM RX4 121 yX4_faultOfText := Or.inl (TB_of 496 (by decide +kernel) (by decide +kernel))
theorem ml_X4_127 : LkM RX4 127 yX0_begin := Or.inr ⟨"GapRow", TB_of 500 (by decide +kernel) (by decide +kernel)⟩
theorem ml_X4_130 : LkM RX4 130 yX0_take := Or.inr ⟨"GapRow", TB_of 504 (by decide +kernel) (by decide +kernel)⟩
theorem ml_X0_22 : LkM RX0 22 yX0_takeKind := Or.inl (TB_of 508 (by decide +kernel) (by decide +kernel))
theorem ml_X0_35 : LkM RX0 35 yX0_numbersOf := Or.inl (TB_of 512 (by decide +kernel) (by decide +kernel))
theorem ml_X0_26 : LkM RX0 26 yX0_takeFigure := Or.inl (TB_of 515 (by decide +kernel) (by decide +kernel))
theorem ml_X4_213 : LkM RX4 213 yX0_mayEnd := Or.inr ⟨"GapRow", TB_of 519 (by decide +kernel) (by decide +kernel)⟩
theorem ml_X4_124 : LkM RX4 124 yX3_mark := Or.inr ⟨"GapRow", TB_of 523 (by decide +kernel) (by decide +kernel)⟩
theorem ml_X4_145 : LkM RX4 145 yX3_returnToMark := Or.inr ⟨"GapRow", TB_of 524 (by decide +kernel) (by decide +kernel)⟩
theorem ml_X4_151 : LkM RX4 151 yX3_keepMark := Or.inr ⟨"GapRow", TB_of 528 (by decide +kernel) (by decide +kernel)⟩
theorem ml_L_89 : LkM RL 89 yX4_back := Or.inl (TB_of 529 (by decide +kernel) (by decide +kernel))
theorem ml_X4_154 : LkM RX4 154 yX3_goBack := Or.inr ⟨"GapRow", TB_of 533 (by decide +kernel) (by decide +kernel)⟩
theorem ml_X3_36 : LkM RX3 36 yX3_returnToMark := Or.inl (TB_of 537 (by decide +kernel) (by decide +kernel))
theorem ml_L_93 : LkM RL 93 yX4_told := Or.inl (TB_of 538 (by decide +kernel) (by decide +kernel))
theorem ml_X4_161 : LkM RX4 161 yX4_toldOf := Or.inl (TB_of 542 (by decide +kernel) (by decide +kernel))
theorem ml_L_97 : LkM RL 97 yX4_digest := Or.inl (TB_of 546 (by decide +kernel) (by decide +kernel))
theorem cq_X4_164 : Cond.constantLong RX4 164 1837 ∈ TB := TB_of 550 (by decide +kernel) (by decide +kernel)
theorem cq_X4_166 : Cond.constantLong RX4 166 31 ∈ TB := TB_of 551 (by decide +kernel) (by decide +kernel)
theorem cl_L_10 : Cond.classLink RL 10 RX5 ∈ TB := TB_of 552 (by decide +kernel) (by decide +kernel)
theorem ml_L_12 : LkM RL 12 yX5_init := Or.inl (TB_of 554 (by decide +kernel) (by decide +kernel))
theorem fk_X5_37 : LkF RX5 37 5 0 := ⟨(RX5, TX5, 17), rfl, by decide, in_X5, Or.inl (TB_of 558 (by decide +kernel) (by decide +kernel))⟩
theorem fk_X5_7 : LkF RX5 7 5 1 := ⟨(RX5, TX5, 17), rfl, by decide, in_X5, Or.inl (TB_of 559 (by decide +kernel) (by decide +kernel))⟩
theorem fk_X5_13 : LkF RX5 13 5 2 := ⟨(RX5, TX5, 17), rfl, by decide, in_X5, Or.inl (TB_of 560 (by decide +kernel) (by decide +kernel))⟩
theorem fk_X5_101 : LkF RX5 101 5 3 := ⟨(RX5, TX5, 17), rfl, by decide, in_X5, Or.inl (TB_of 561 (by decide +kernel) (by decide +kernel))⟩
theorem fk_X5_16 : LkF RX5 16 5 4 := ⟨(RX5, TX5, 17), rfl, by decide, in_X5, Or.inl (TB_of 562 (by decide +kernel) (by decide +kernel))⟩
theorem fk_X5_19 : LkF RX5 19 5 5 := ⟨(RX5, TX5, 17), rfl, by decide, in_X5, Or.inl (TB_of 563 (by decide +kernel) (by decide +kernel))⟩
theorem fk_X5_22 : LkF RX5 22 5 6 := ⟨(RX5, TX5, 17), rfl, by decide, in_X5, Or.inl (TB_of 564 (by decide +kernel) (by decide +kernel))⟩
theorem fk_X5_25 : LkF RX5 25 5 7 := ⟨(RX5, TX5, 17), rfl, by decide, in_X5, Or.inl (TB_of 565 (by decide +kernel) (by decide +kernel))⟩
theorem fk_X5_28 : LkF RX5 28 5 8 := ⟨(RX5, TX5, 17), rfl, by decide, in_X5, Or.inl (TB_of 566 (by decide +kernel) (by decide +kernel))⟩
theorem fk_X5_53 : LkF RX5 53 5 9 := ⟨(RX5, TX5, 17), rfl, by decide, in_X5, Or.inl (TB_of 567 (by decide +kernel) (by decide +kernel))⟩
theorem fk_X5_56 : LkF RX5 56 5 10 := ⟨(RX5, TX5, 17), rfl, by decide, in_X5, Or.inl (TB_of 568 (by decide +kernel) (by decide +kernel))⟩
theorem fk_X5_31 : LkF RX5 31 5 11 := ⟨(RX5, TX5, 17), rfl, by decide, in_X5, Or.inl (TB_of 569 (by decide +kernel) (by decide +kernel))⟩
theorem fk_X5_137 : LkF RX5 137 5 12 := ⟨(RX5, TX5, 17), rfl, by decide, in_X5, Or.inl (TB_of 570 (by decide +kernel) (by decide +kernel))⟩
theorem fk_X5_140 : LkF RX5 140 5 13 := ⟨(RX5, TX5, 17), rfl, by decide, in_X5, Or.inl (TB_of 571 (by decide +kernel) (by decide +kernel))⟩
theorem fk_X5_34 : LkF RX5 34 5 14 := ⟨(RX5, TX5, 17), rfl, by decide, in_X5, Or.inl (TB_of 572 (by decide +kernel) (by decide +kernel))⟩
theorem fk_X5_159 : LkF RX5 159 5 15 := ⟨(RX5, TX5, 17), rfl, by decide, in_X5, Or.inl (TB_of 573 (by decide +kernel) (by decide +kernel))⟩
theorem fk_X5_146 : LkF RX5 146 5 16 := ⟨(RX5, TX5, 17), rfl, by decide, in_X5, Or.inl (TB_of 574 (by decide +kernel) (by decide +kernel))⟩
theorem ml_L_17 : LkM RL 17 yX5_puts := Or.inl (TB_of 610 (by decide +kernel) (by decide +kernel))
theorem ml_X5_107 : LkM RX5 107 yX5_laysAside := Or.inl (TB_of 614 (by decide +kernel) (by decide +kernel))
theorem ml_X5_110 : LkM RX5 110 yX5_putOf := Or.inl (TB_of 618 (by decide +kernel) (by decide +kernel))
theorem ml_X5_87 : LkM RX5 87 yX5_in := Or.inl (TB_of 622 (by decide +kernel) (by decide +kernel))
theorem ml_X5_91 : LkM RX5 91 yX5_cellOf := Or.inl (TB_of 625 (by decide +kernel) (by decide +kernel))
theorem ml_X5_94 : LkM RX5 94 yX5_comes := Or.inl (TB_of 629 (by decide +kernel) (by decide +kernel))
theorem ml_X5_71 : LkM RX5 71 yX5_segmentFor := Or.inl (TB_of 633 (by decide +kernel) (by decide +kernel))
theorem ml_X5_49 : LkM RX5 49 yX5_top := Or.inl (TB_of 637 (by decide +kernel) (by decide +kernel))
theorem ml_X5_45 : LkM RX5 45 yX5_wide := Or.inl (TB_of 641 (by decide +kernel) (by decide +kernel))
theorem ml_X5_74 : LkM RX5 74 yX5_keysIn := Or.inl (TB_of 644 (by decide +kernel) (by decide +kernel))
theorem ml_X5_77 : LkM RX5 77 yX5_most := Or.inl (TB_of 648 (by decide +kernel) (by decide +kernel))
theorem ml_X5_80 : LkM RX5 80 yX5_spacesWindow := Or.inl (TB_of 652 (by decide +kernel) (by decide +kernel))
theorem ml_X5_63 : LkM RX5 63 yX5_takesOut := Or.inl (TB_of 656 (by decide +kernel) (by decide +kernel))
theorem ml_X5_59 : LkM RX5 59 yX5_lays := Or.inl (TB_of 660 (by decide +kernel) (by decide +kernel))
theorem ml_X5_67 : LkM RX5 67 yX5_putsBack := Or.inl (TB_of 664 (by decide +kernel) (by decide +kernel))
theorem ml_X5_113 : LkM RX5 113 yX5_done := Or.inl (TB_of 668 (by decide +kernel) (by decide +kernel))
theorem ml_X5_41 : LkM RX5 41 yX5_answers := Or.inl (TB_of 672 (by decide +kernel) (by decide +kernel))
theorem ml_X5_104 : LkM RX5 104 yX5_leaves := Or.inl (TB_of 676 (by decide +kernel) (by decide +kernel))
theorem ml_L_22 : LkM RL 22 yX5_takes := Or.inl (TB_of 680 (by decide +kernel) (by decide +kernel))
theorem ml_X5_116 : LkM RX5 116 yX5_takeOf := Or.inl (TB_of 684 (by decide +kernel) (by decide +kernel))
theorem ml_X5_97 : LkM RX5 97 yX5_goes := Or.inl (TB_of 688 (by decide +kernel) (by decide +kernel))
theorem ml_X5_84 : LkM RX5 84 yX5_least := Or.inl (TB_of 692 (by decide +kernel) (by decide +kernel))
theorem ml_L_26 : LkM RL 26 yX5_drops := Or.inl (TB_of 696 (by decide +kernel) (by decide +kernel))
theorem ml_X5_119 : LkM RX5 119 yX5_dropOf := Or.inl (TB_of 700 (by decide +kernel) (by decide +kernel))
theorem ml_L_30 : LkM RL 30 yX5_mode := Or.inl (TB_of 704 (by decide +kernel) (by decide +kernel))
theorem ml_X5_122 : LkM RX5 122 yX5_modeOf := Or.inl (TB_of 708 (by decide +kernel) (by decide +kernel))
theorem ml_L_35 : LkM RL 35 yX5_spaces := Or.inl (TB_of 712 (by decide +kernel) (by decide +kernel))
theorem ml_L_92 : LkM RL 92 yX5_back := Or.inl (TB_of 716 (by decide +kernel) (by decide +kernel))
theorem ml_L_39 : LkM RL 39 yX5_value := Or.inl (TB_of 720 (by decide +kernel) (by decide +kernel))
theorem ml_X5_125 : LkM RX5 125 yX5_bad := Or.inl (TB_of 724 (by decide +kernel) (by decide +kernel))
theorem ml_L_43 : LkM RL 43 yX5_cell := Or.inl (TB_of 728 (by decide +kernel) (by decide +kernel))
theorem ml_L_47 : LkM RL 47 yX5_at := Or.inl (TB_of 732 (by decide +kernel) (by decide +kernel))
theorem ml_L_51 : LkM RL 51 yX5_rank := Or.inl (TB_of 736 (by decide +kernel) (by decide +kernel))
theorem ml_X5_128 : LkM RX5 128 yX5_below := Or.inl (TB_of 740 (by decide +kernel) (by decide +kernel))
theorem ml_L_55 : LkM RL 55 yX5_key := Or.inl (TB_of 744 (by decide +kernel) (by decide +kernel))
theorem ml_L_60 : LkM RL 60 yX5_scan := Or.inl (TB_of 748 (by decide +kernel) (by decide +kernel))
theorem ml_L_64 : LkM RL 64 yX5_index := Or.inl (TB_of 752 (by decide +kernel) (by decide +kernel))
theorem ml_X5_131 : LkM RX5 131 yX5_leastOf := Or.inl (TB_of 756 (by decide +kernel) (by decide +kernel))
theorem ml_L_68 : LkM RL 68 yX5_window := Or.inl (TB_of 760 (by decide +kernel) (by decide +kernel))
theorem ml_L_72 : LkM RL 72 yX5_count := Or.inl (TB_of 764 (by decide +kernel) (by decide +kernel))
theorem ml_X5_134 : LkM RX5 134 yX5_countOf := Or.inl (TB_of 768 (by decide +kernel) (by decide +kernel))
theorem ml_L_76 : LkM RL 76 yX5_log := Or.inl (TB_of 772 (by decide +kernel) (by decide +kernel))
theorem ml_L_80 : LkM RL 80 yX5_type := Or.inl (TB_of 776 (by decide +kernel) (by decide +kernel))
theorem ml_L_84 : LkM RL 84 yX5_clear := Or.inl (TB_of 780 (by decide +kernel) (by decide +kernel))
theorem ml_L_88 : LkM RL 88 yX5_does := Or.inl (TB_of 784 (by decide +kernel) (by decide +kernel))
theorem ml_X5_165 : LkM RX5 165 yX5_reads := Or.inl (TB_of 788 (by decide +kernel) (by decide +kernel))
theorem ml_X5_143 : LkM RX5 143 yX5_blanks := Or.inl (TB_of 792 (by decide +kernel) (by decide +kernel))
theorem ml_X5_162 : LkM RX5 162 yX5_readsOrder := Or.inl (TB_of 796 (by decide +kernel) (by decide +kernel))
theorem ml_X5_153 : LkM RX5 153 yX5_number := Or.inl (TB_of 800 (by decide +kernel) (by decide +kernel))
theorem ml_X5_149 : LkM RX5 149 yX5_isFigure := Or.inl (TB_of 804 (by decide +kernel) (by decide +kernel))
theorem ml_X5_156 : LkM RX5 156 yX5_sign := Or.inl (TB_of 808 (by decide +kernel) (by decide +kernel))
theorem ml_X5_168 : LkM RX5 168 yX5_doneBy := Or.inl (TB_of 812 (by decide +kernel) (by decide +kernel))
theorem ml_X5_171 : LkM RX5 171 yX5_comesBack := Or.inl (TB_of 816 (by decide +kernel) (by decide +kernel))
theorem ml_L_96 : LkM RL 96 yX5_told := Or.inl (TB_of 820 (by decide +kernel) (by decide +kernel))
theorem ml_X5_174 : LkM RX5 174 yX5_toldOf := Or.inl (TB_of 824 (by decide +kernel) (by decide +kernel))
theorem ml_L_101 : LkM RL 101 yX5_digest := Or.inl (TB_of 828 (by decide +kernel) (by decide +kernel))
theorem cq_X5_177 : Cond.constantLong RX5 177 1837 ∈ TB := TB_of 832 (by decide +kernel) (by decide +kernel)
theorem cq_X5_179 : Cond.constantLong RX5 179 31 ∈ TB := TB_of 833 (by decide +kernel) (by decide +kernel)
theorem mo_X4_1 : Cond.methodLink RX4 1 objectInit ∈ TB := TB_of 90 (by decide +kernel) (by decide +kernel)
theorem mo_X1_3 : Cond.methodLink RX1 3 objectInit ∈ TB := TB_of 98 (by decide +kernel) (by decide +kernel)
theorem mo_X2_3 : Cond.methodLink RX2 3 objectInit ∈ TB := TB_of 153 (by decide +kernel) (by decide +kernel)
theorem mo_X3_3 : Cond.methodLink RX3 3 objectInit ∈ TB := TB_of 175 (by decide +kernel) (by decide +kernel)
theorem mo_X0_3 : Cond.methodLink RX0 3 objectInit ∈ TB := TB_of 192 (by decide +kernel) (by decide +kernel)
theorem mo_X5_1 : Cond.methodLink RX5 1 objectInit ∈ TB := TB_of 557 (by decide +kernel) (by decide +kernel)
theorem oi_c : Cond.code objectInit ⟨#[0xb1]⟩ 1 none ∈ TB := TB_of 92 (by decide +kernel) (by decide +kernel)
theorem oi_i : Cond.instanceMethod objectInit ∈ TB := TB_of 91 (by decide +kernel) (by decide +kernel)
end
section
/-- locals by their places -/
abbrev Lv : Type := List (Option Value)
def lh (ls : Array Slot) (lv : Lv) : Prop := ls.size = lv.length ∧ lv_wf ls ∧ ∀ (i : Nat) (v : Value), lv[i]? = some (some v) → ls[i]? = some (.val v)
def asc (lv : Lv) : List (Nat × Value) := lv.zipIdx.filterMap (fun q => q.1.map (fun v => (q.2, v)))
theorem asc_mem {lv : Lv} {i : Nat} {v : Value} : (i, v) ∈ asc lv ↔ lv[i]? = some (some v) := by
  unfold asc
  rw [List.mem_filterMap]
  constructor
  · rintro ⟨⟨a, j⟩, h1, h2⟩
    have h3 := List.mem_zipIdx_iff_getElem?.mp h1
    cases a with
    | none => cases h2
    | some w => cases h2; exact h3
  · intro h
    exact ⟨(some v, i), List.mem_zipIdx_iff_getElem?.mpr h, rfl⟩
theorem lh_has {ls : Array Slot} {lv : Lv} (h : lh ls lv) : lv_has ls lv.length (asc lv) := ⟨h.1, h.2.1, fun q hq => h.2.2 q.1 q.2 (asc_mem.mp hq)⟩
def catOk (lv : Lv) (i : Nat) : Bool := match i with
  | 0 => true
  | j + 1 => match lv[j]? with
    | some (some w) => w.category == 1
    | _ => true
theorem lh_set {ls' : Array Slot} {lv : Lv} {i : Nat} {v : Value} (hc : catOk lv i = true) (hi : i < lv.length) (h : lv_has ls' lv.length ((i, v) :: (asc lv).filter (fun q => !(q.1 == i) && !(q.1 + 1 == i && q.2.category == 2)))) : lh ls' (lv.set i (some v)) := by
  refine ⟨by rw [List.length_set]; exact h.1, h.2.1, fun j w hj => ?_⟩
  by_cases e : i = j
  · subst e
    rw [List.getElem?_set_self hi] at hj
    cases hj
    exact h.2.2 (i, v) List.mem_cons_self
  · rw [List.getElem?_set_ne e] at hj
    refine h.2.2 (j, w) (List.mem_cons_of_mem _ (List.mem_filter.mpr ⟨asc_mem.mpr hj, ?_⟩))
    have e1 : (j == i) = false := by simp; exact fun z => e z.symm
    by_cases e2 : j + 1 = i
    · subst e2
      unfold catOk at hc
      simp only [hj] at hc
      have : w.category = 1 := by simpa using hc
      simp [this]
    · simp [e2]
      exact fun z => e z.symm
theorem lh_set2 {ls' : Array Slot} {lv : Lv} {i : Nat} {v : Value} (hc : catOk lv i = true) (hi : i + 1 < lv.length) (h : lv_has ls' lv.length ((i, v) :: (asc lv).filter (fun q => !(q.1 == i) && (!(q.1 == i + 1) && !(q.1 + 1 == i && q.2.category == 2))))) : lh ls' ((lv.set i (some v)).set (i + 1) none) := by
  refine ⟨by rw [List.length_set, List.length_set]; exact h.1, h.2.1, fun j w hj => ?_⟩
  by_cases e0 : i + 1 = j
  · subst e0
    rw [List.getElem?_set_self (by rw [List.length_set]; exact hi)] at hj
    cases hj
  · rw [List.getElem?_set_ne e0] at hj
    by_cases e : i = j
    · subst e
      rw [List.getElem?_set_self (by omega)] at hj
      cases hj
      exact h.2.2 (i, v) List.mem_cons_self
    · rw [List.getElem?_set_ne e] at hj
      refine h.2.2 (j, w) (List.mem_cons_of_mem _ (List.mem_filter.mpr ⟨asc_mem.mpr hj, ?_⟩))
      have e1 : ¬ j = i := fun z => e z.symm
      have e3 : ¬ j = i + 1 := fun z => e0 z.symm
      by_cases e2 : j + 1 = i
      · subst e2
        unfold catOk at hc
        simp only [hj] at hc
        have : w.category = 1 := by simpa using hc
        simp [this]
        omega
      · simp [e2, e1, e3]
/-- what stands fixed while a method's body is walked -/
abbrev Cx : Type := Program × Env × State × MethodId × Array Value × List Frame × Method × Code
def Fx (X : Cx) (cc : ByteArray) (nL : Nat) (own : String) (ret : Option FieldType) (D : va_G) (tys : List (ClassId × FieldType)) (A : Nat → Prop) : Prop := match X with
  | (p, _, s, m, args, _, meth, c) => CallFix p m c cc nL s args TB own ∧ meth.sig.returnType = ret ∧ meth.locks = false ∧ (∀ q, s.heap.size ≤ q → A q) ∧ va_K D vwCl tys s
/-- the machine at a frame: from any heap that holds the cells ws, any locals that hold lv, it comes to Q -/
def G (l : Launch) (X : Cx) (R : Room) (cc : ByteArray) (own : String) (ret : Option FieldType) (D : va_G) (tys : List (ClassId × FieldType)) (A : Nat → Prop) (Q : State → Prop) (k n : Nat) (ws : va_W) (pc : Nat) (lv : Lv) (st : List Value) : Prop := match X with
  | (p, e, s, m, args, below, meth, c) => Fx (p, e, s, m, args, below, meth, c) cc lv.length own ret D tys A → ∀ (H : Heap) (locs : List Loc) (ls : Array Slot), va_P D vwCl ws H → va_D A ws → va_S A s.heap H locs → lh ls lv → W p l e R s m args below meth c H locs k n Q (F0 m pc ls st)
section GR
variable {l : Launch} {X : Cx} {R : Room} {cc : ByteArray} {own : String} {ret : Option FieldType} {D : va_G} {tys : List (ClassId × FieldType)} {A : Nat → Prop} {Q : State → Prop} {k n : Nat} {ws : va_W} {pc : Nat} {lv : Lv} {st : List Value}
theorem r_eq {pc' : Nat} {lv' : Lv} {st' : List Value} {ws' : va_W} (h1 : pc = pc') (h2 : lv = lv') (h3 : st = st') (h4 : ws = ws') (kk : G l X R cc own ret D tys A Q k n ws' pc' lv' st') : G l X R cc own ret D tys A Q k n ws pc lv st := by
  subst h1; subst h2; subst h3; subst h4; exact kk
theorem r_ws {ws' : va_W} (h4 : ws = ws') (kk : G l X R cc own ret D tys A Q k n ws' pc lv st) : G l X R cc own ret D tys A Q k n ws pc lv st := by
  subst h4; exact kk
theorem r_top {x y : Int32} (h : x = y) (kk : G l X R cc own ret D tys A Q k n ws pc lv (.int y :: st)) : G l X R cc own ret D tys A Q k n ws pc lv (.int x :: st) := by
  subst h; exact kk
theorem r_topl {x y : Int64} (h : x = y) (kk : G l X R cc own ret D tys A Q k n ws pc lv (.long y :: st)) : G l X R cc own ret D tys A Q k n ws pc lv (.long x :: st) := by
  subst h; exact kk
theorem r_wide {k' n' : Nat} (h1 : k ≤ k') (h2 : n ≤ n') (kk : G l X R cc own ret D tys A Q k' n' ws pc lv st) : G l X R cc own ret D tys A Q k n ws pc lv st := by
  obtain ⟨p, e, s, m, args, below, meth, c⟩ := X
  intro F H locs ls hP hD hS hl
  exact W.widen h1 h2 (kk F H locs ls hP hD hS hl)

theorem r_iconst {z : Int} (v : Int32) (hd : decode cc pc = .ok (.iconst z, 1)) (hv : Int32.ofInt z = v) (kk : G l X R cc own ret D tys A Q k n ws (pc + 1) lv (.int v :: st)) : G l X R cc own ret D tys A Q k n ws pc lv (st) := by
  obtain ⟨p, e, s, m, args, below, meth, c⟩ := X
  intro F H locs ls hP hD hS hl
  exact lv_iconst F.1.1 F.1.2.1 hd hv (kk F H locs ls hP hD hS hl)
theorem r_bipush {z : Int} (v : Int32) (hd : decode cc pc = .ok (.bipush z, 2)) (hv : (Int8.ofInt z).toInt32 = v) (kk : G l X R cc own ret D tys A Q k n ws (pc + 2) lv (.int v :: st)) : G l X R cc own ret D tys A Q k n ws pc lv (st) := by
  obtain ⟨p, e, s, m, args, below, meth, c⟩ := X
  intro F H locs ls hP hD hS hl
  exact lv_bipush F.1.1 F.1.2.1 hd hv (kk F H locs ls hP hD hS hl)
theorem r_sipush {z : Int} (v : Int32) (hd : decode cc pc = .ok (.sipush z, 3)) (hv : (Int16.ofInt z).toInt32 = v) (kk : G l X R cc own ret D tys A Q k n ws (pc + 3) lv (.int v :: st)) : G l X R cc own ret D tys A Q k n ws pc lv (st) := by
  obtain ⟨p, e, s, m, args, below, meth, c⟩ := X
  intro F H locs ls hP hD hS hl
  exact lv_sipush F.1.1 F.1.2.1 hd hv (kk F H locs ls hP hD hS hl)
theorem r_ldc2 {ix : Nat} {v : Int64} (hc : Cond.constantLong own ix v ∈ TB) (hd : decode cc pc = .ok (.ldc2_w ix, 3)) (kk : G l X R cc own ret D tys A Q k n ws (pc + 3) lv (.long v :: st)) : G l X R cc own ret D tys A Q k n ws pc lv (st) := by
  obtain ⟨p, e, s, m, args, below, meth, c⟩ := X
  intro F H locs ls hP hD hS hl
  exact lv_ldc2 F.1.1 F.1.2.1 F.1.2.2.2.1 (F.1.2.2.2.2 _ hc) hd (kk F H locs ls hP hD hS hl)
theorem r_iload_n {j : Fin 4} {x : Int32} (i : Nat) (hd : decode cc pc = .ok (.iload_n j, 1)) (hj : (j : Nat) = i) (hi : lv[i]? = some (some (.int x))) (kk : G l X R cc own ret D tys A Q k n ws (pc + 1) lv (.int x :: st)) : G l X R cc own ret D tys A Q k n ws pc lv (st) := by
  obtain ⟨p, e, s, m, args, below, meth, c⟩ := X
  intro F H locs ls hP hD hS hl
  exact lv_iload_n F.1.1 F.1.2.1 hd hj (hl.2.2 _ _ hi) (kk F H locs ls hP hD hS hl)
theorem r_iload {x : Int32} {i : Nat} (hd : decode cc pc = .ok (.iload i, 2)) (hi : lv[i]? = some (some (.int x))) (kk : G l X R cc own ret D tys A Q k n ws (pc + 2) lv (.int x :: st)) : G l X R cc own ret D tys A Q k n ws pc lv (st) := by
  obtain ⟨p, e, s, m, args, below, meth, c⟩ := X
  intro F H locs ls hP hD hS hl
  exact lv_iload F.1.1 F.1.2.1 hd (hl.2.2 _ _ hi) (kk F H locs ls hP hD hS hl)
theorem r_aload_n {j : Fin 4} {x : Nat} (i : Nat) (hd : decode cc pc = .ok (.aload_n j, 1)) (hj : (j : Nat) = i) (hi : lv[i]? = some (some (.ref x))) (kk : G l X R cc own ret D tys A Q k n ws (pc + 1) lv (.ref x :: st)) : G l X R cc own ret D tys A Q k n ws pc lv (st) := by
  obtain ⟨p, e, s, m, args, below, meth, c⟩ := X
  intro F H locs ls hP hD hS hl
  exact lv_aload_n F.1.1 F.1.2.1 hd hj (hl.2.2 _ _ hi) (kk F H locs ls hP hD hS hl)
theorem r_aload {x : Nat} {i : Nat} (hd : decode cc pc = .ok (.aload i, 2)) (hi : lv[i]? = some (some (.ref x))) (kk : G l X R cc own ret D tys A Q k n ws (pc + 2) lv (.ref x :: st)) : G l X R cc own ret D tys A Q k n ws pc lv (st) := by
  obtain ⟨p, e, s, m, args, below, meth, c⟩ := X
  intro F H locs ls hP hD hS hl
  exact lv_aload F.1.1 F.1.2.1 hd (hl.2.2 _ _ hi) (kk F H locs ls hP hD hS hl)
theorem r_lload_n {j : Fin 4} {x : Int64} (i : Nat) (hd : decode cc pc = .ok (.lload_n j, 1)) (hj : (j : Nat) = i) (hi : lv[i]? = some (some (.long x))) (kk : G l X R cc own ret D tys A Q k n ws (pc + 1) lv (.long x :: st)) : G l X R cc own ret D tys A Q k n ws pc lv (st) := by
  obtain ⟨p, e, s, m, args, below, meth, c⟩ := X
  intro F H locs ls hP hD hS hl
  exact lv_lload_n F.1.1 F.1.2.1 hd hj (hl.2.2 _ _ hi) (kk F H locs ls hP hD hS hl)
theorem r_lload {x : Int64} {i : Nat} (hd : decode cc pc = .ok (.lload i, 2)) (hi : lv[i]? = some (some (.long x))) (kk : G l X R cc own ret D tys A Q k n ws (pc + 2) lv (.long x :: st)) : G l X R cc own ret D tys A Q k n ws pc lv (st) := by
  obtain ⟨p, e, s, m, args, below, meth, c⟩ := X
  intro F H locs ls hP hD hS hl
  exact lv_lload F.1.1 F.1.2.1 hd (hl.2.2 _ _ hi) (kk F H locs ls hP hD hS hl)
theorem r_istore_n {x : Int32} {j : Fin 4} (i : Nat) (lv' : Lv) (hd : decode cc pc = .ok (.istore_n j, 1)) (hj : (j : Nat) = i) (hi : i < lv.length) (hc : catOk lv i = true) (hs : lv.set i (some (.int x)) = lv') (kk : G l X R cc own ret D tys A Q k n ws (pc + 1) lv' st) : G l X R cc own ret D tys A Q k n ws pc lv (.int x :: st) := by
  obtain ⟨p, e, s, m, args, below, meth, c⟩ := X
  intro F H locs ls hP hD hS hl
  exact lv_istore_n F.1.1 F.1.2.1 hd hj (lh_has hl) hi rfl (fun ls2 hl2 => kk (by rw [← hs, List.length_set]; exact F) H locs ls2 hP hD hS (hs ▸ lh_set hc hi hl2))
theorem r_istore {x : Int32} {i : Nat} (lv' : Lv) (hd : decode cc pc = .ok (.istore i, 2))  (hi : i < lv.length) (hc : catOk lv i = true) (hs : lv.set i (some (.int x)) = lv') (kk : G l X R cc own ret D tys A Q k n ws (pc + 2) lv' st) : G l X R cc own ret D tys A Q k n ws pc lv (.int x :: st) := by
  obtain ⟨p, e, s, m, args, below, meth, c⟩ := X
  intro F H locs ls hP hD hS hl
  exact lv_istore F.1.1 F.1.2.1 hd  (lh_has hl) hi rfl (fun ls2 hl2 => kk (by rw [← hs, List.length_set]; exact F) H locs ls2 hP hD hS (hs ▸ lh_set hc hi hl2))
theorem r_astore_n {x : Nat} {j : Fin 4} (i : Nat) (lv' : Lv) (hd : decode cc pc = .ok (.astore_n j, 1)) (hj : (j : Nat) = i) (hi : i < lv.length) (hc : catOk lv i = true) (hs : lv.set i (some (.ref x)) = lv') (kk : G l X R cc own ret D tys A Q k n ws (pc + 1) lv' st) : G l X R cc own ret D tys A Q k n ws pc lv (.ref x :: st) := by
  obtain ⟨p, e, s, m, args, below, meth, c⟩ := X
  intro F H locs ls hP hD hS hl
  exact lv_astore_n F.1.1 F.1.2.1 hd hj (lh_has hl) hi rfl (fun ls2 hl2 => kk (by rw [← hs, List.length_set]; exact F) H locs ls2 hP hD hS (hs ▸ lh_set hc hi hl2))
theorem r_astore {x : Nat} {i : Nat} (lv' : Lv) (hd : decode cc pc = .ok (.astore i, 2))  (hi : i < lv.length) (hc : catOk lv i = true) (hs : lv.set i (some (.ref x)) = lv') (kk : G l X R cc own ret D tys A Q k n ws (pc + 2) lv' st) : G l X R cc own ret D tys A Q k n ws pc lv (.ref x :: st) := by
  obtain ⟨p, e, s, m, args, below, meth, c⟩ := X
  intro F H locs ls hP hD hS hl
  exact lv_astore F.1.1 F.1.2.1 hd  (lh_has hl) hi rfl (fun ls2 hl2 => kk (by rw [← hs, List.length_set]; exact F) H locs ls2 hP hD hS (hs ▸ lh_set hc hi hl2))
theorem r_lstore_n {x : Int64} {j : Fin 4} (i : Nat) (lv' : Lv) (hd : decode cc pc = .ok (.lstore_n j, 1)) (hj : (j : Nat) = i) (hi : i + 1 < lv.length) (hc : catOk lv i = true) (hs : (lv.set i (some (.long x))).set (i + 1) none = lv') (kk : G l X R cc own ret D tys A Q k n ws (pc + 1) lv' st) : G l X R cc own ret D tys A Q k n ws pc lv (.long x :: st) := by
  obtain ⟨p, e, s, m, args, below, meth, c⟩ := X
  intro F H locs ls hP hD hS hl
  exact lv_lstore_n F.1.1 F.1.2.1 hd hj (lh_has hl) hi rfl (fun ls2 hl2 => kk (by rw [← hs, List.length_set, List.length_set]; exact F) H locs ls2 hP hD hS (hs ▸ lh_set2 hc hi hl2))
theorem r_iinc {x v : Int32} {i : Nat} {z : Int} (lv' : Lv) (hd : decode cc pc = .ok (.iinc i z, 3)) (hx : lv[i]? = some (some (.int x))) (hv : x + Int32.ofInt z = v) (hi : i < lv.length) (hc : catOk lv i = true) (hs : lv.set i (some (.int v)) = lv') (kk : G l X R cc own ret D tys A Q k n ws (pc + 3) lv' st) : G l X R cc own ret D tys A Q k n ws pc lv st := by
  obtain ⟨p, e, s, m, args, below, meth, c⟩ := X
  intro F H locs ls hP hD hS hl
  obtain ⟨q, hq⟩ := List.getElem?_of_mem (asc_mem.mpr hx)
  exact lv_iinc F.1.1 F.1.2.1 hd (lh_has hl) (k := q) hq hv hi rfl (fun ls2 hl2 => kk (by rw [← hs, List.length_set]; exact F) H locs ls2 hP hD hS (hs ▸ lh_set hc hi hl2))
theorem r_iadd {x y : Int32} (hd : decode cc pc = .ok (.iadd, 1)) (kk : G l X R cc own ret D tys A Q k n ws (pc + 1) lv (.int (x + y) :: st)) : G l X R cc own ret D tys A Q k n ws pc lv (.int y :: .int x :: st) := by
  obtain ⟨p, e, s, m, args, below, meth, c⟩ := X
  intro F H locs ls hP hD hS hl
  exact lv_iadd F.1.1 F.1.2.1 hd  (kk F H locs ls hP hD hS hl)
theorem r_isub {x y : Int32} (hd : decode cc pc = .ok (.isub, 1)) (kk : G l X R cc own ret D tys A Q k n ws (pc + 1) lv (.int (x - y) :: st)) : G l X R cc own ret D tys A Q k n ws pc lv (.int y :: .int x :: st) := by
  obtain ⟨p, e, s, m, args, below, meth, c⟩ := X
  intro F H locs ls hP hD hS hl
  exact lv_isub F.1.1 F.1.2.1 hd  (kk F H locs ls hP hD hS hl)
theorem r_imul {x y : Int32} (hd : decode cc pc = .ok (.imul, 1)) (kk : G l X R cc own ret D tys A Q k n ws (pc + 1) lv (.int (x * y) :: st)) : G l X R cc own ret D tys A Q k n ws pc lv (.int y :: .int x :: st) := by
  obtain ⟨p, e, s, m, args, below, meth, c⟩ := X
  intro F H locs ls hP hD hS hl
  exact lv_imul F.1.1 F.1.2.1 hd  (kk F H locs ls hP hD hS hl)
theorem r_iand {x y : Int32} (hd : decode cc pc = .ok (.iand, 1)) (kk : G l X R cc own ret D tys A Q k n ws (pc + 1) lv (.int (x &&& y) :: st)) : G l X R cc own ret D tys A Q k n ws pc lv (.int y :: .int x :: st) := by
  obtain ⟨p, e, s, m, args, below, meth, c⟩ := X
  intro F H locs ls hP hD hS hl
  exact lv_iand F.1.1 F.1.2.1 hd  (kk F H locs ls hP hD hS hl)
theorem r_ishl {x y : Int32} (hd : decode cc pc = .ok (.ishl, 1)) (kk : G l X R cc own ret D tys A Q k n ws (pc + 1) lv (.int (x <<< (y &&& 31)) :: st)) : G l X R cc own ret D tys A Q k n ws pc lv (.int y :: .int x :: st) := by
  obtain ⟨p, e, s, m, args, below, meth, c⟩ := X
  intro F H locs ls hP hD hS hl
  exact lv_ishl F.1.1 F.1.2.1 hd  (kk F H locs ls hP hD hS hl)
theorem r_ishr {x y : Int32} (hd : decode cc pc = .ok (.ishr, 1)) (kk : G l X R cc own ret D tys A Q k n ws (pc + 1) lv (.int (x >>> (y &&& 31)) :: st)) : G l X R cc own ret D tys A Q k n ws pc lv (.int y :: .int x :: st) := by
  obtain ⟨p, e, s, m, args, below, meth, c⟩ := X
  intro F H locs ls hP hD hS hl
  exact lv_ishr F.1.1 F.1.2.1 hd  (kk F H locs ls hP hD hS hl)
theorem r_idiv {x y : Int32} (hy : ¬ y = 0) (hd : decode cc pc = .ok (.idiv, 1)) (kk : G l X R cc own ret D tys A Q k n ws (pc + 1) lv (.int (x / y) :: st)) : G l X R cc own ret D tys A Q k n ws pc lv (.int y :: .int x :: st) := by
  obtain ⟨p, e, s, m, args, below, meth, c⟩ := X
  intro F H locs ls hP hD hS hl
  exact lv_idiv F.1.1 F.1.2.1 hd hy (kk F H locs ls hP hD hS hl)
theorem r_ladd {x y : Int64} (hd : decode cc pc = .ok (.ladd, 1)) (kk : G l X R cc own ret D tys A Q k n ws (pc + 1) lv (.long (x + y) :: st)) : G l X R cc own ret D tys A Q k n ws pc lv (.long y :: .long x :: st) := by
  obtain ⟨p, e, s, m, args, below, meth, c⟩ := X
  intro F H locs ls hP hD hS hl
  exact lv_ladd F.1.1 F.1.2.1 hd  (kk F H locs ls hP hD hS hl)
theorem r_lmul {x y : Int64} (hd : decode cc pc = .ok (.lmul, 1)) (kk : G l X R cc own ret D tys A Q k n ws (pc + 1) lv (.long (x * y) :: st)) : G l X R cc own ret D tys A Q k n ws pc lv (.long y :: .long x :: st) := by
  obtain ⟨p, e, s, m, args, below, meth, c⟩ := X
  intro F H locs ls hP hD hS hl
  exact lv_lmul F.1.1 F.1.2.1 hd  (kk F H locs ls hP hD hS hl)
theorem r_i2l {x : Int32} (hd : decode cc pc = .ok (.i2l, 1)) (kk : G l X R cc own ret D tys A Q k n ws (pc + 1) lv (.long x.toInt64 :: st)) : G l X R cc own ret D tys A Q k n ws pc lv (.int x :: st) := by
  obtain ⟨p, e, s, m, args, below, meth, c⟩ := X
  intro F H locs ls hP hD hS hl
  exact lv_i2l F.1.1 F.1.2.1 hd rfl (kk F H locs ls hP hD hS hl)
theorem r_lcmp {x y : Int64} (hd : decode cc pc = .ok (.lcmp, 1)) (kk : G l X R cc own ret D tys A Q k n ws (pc + 1) lv (.int (lg_cmp x y) :: st)) : G l X R cc own ret D tys A Q k n ws pc lv (.long y :: .long x :: st) := by
  obtain ⟨p, e, s, m, args, below, meth, c⟩ := X
  intro F H locs ls hP hD hS hl
  exact W.lcmp F.1.1 F.1.2.1 hd  (kk F H locs ls hP hD hS hl)
theorem r_dup {v : Value} (hv : v.category = 1) (hd : decode cc pc = .ok (.dup, 1)) (kk : G l X R cc own ret D tys A Q k n ws (pc + 1) lv (v :: v :: st)) : G l X R cc own ret D tys A Q k n ws pc lv (v :: st) := by
  obtain ⟨p, e, s, m, args, below, meth, c⟩ := X
  intro F H locs ls hP hD hS hl
  exact lv_dup F.1.1 F.1.2.1 hd hv (kk F H locs ls hP hD hS hl)
theorem r_pop {v : Value} (hv : v.category = 1) (hd : decode cc pc = .ok (.pop, 1)) (kk : G l X R cc own ret D tys A Q k n ws (pc + 1) lv (st)) : G l X R cc own ret D tys A Q k n ws pc lv (v :: st) := by
  obtain ⟨p, e, s, m, args, below, meth, c⟩ := X
  intro F H locs ls hP hD hS hl
  exact lv_pop F.1.1 F.1.2.1 hd hv (kk F H locs ls hP hD hS hl)
theorem r_dup2 {v w : Value} (hv : v.category = 1) (hw : w.category = 1) (hd : decode cc pc = .ok (.dup2, 1)) (kk : G l X R cc own ret D tys A Q k n ws (pc + 1) lv (v :: w :: v :: w :: st)) : G l X R cc own ret D tys A Q k n ws pc lv (v :: w :: st) := by
  obtain ⟨p, e, s, m, args, below, meth, c⟩ := X
  intro F H locs ls hP hD hS hl
  exact lv_dup2_11 F.1.1 F.1.2.1 hd hv hw (kk F H locs ls hP hD hS hl)
theorem r_goto {off : Int} (tgt : Nat) (hd : decode cc pc = .ok (.goto off, 3)) (ht : (pc : Int) + off = (tgt : Int)) (kk : G l X R cc own ret D tys A Q k n ws tgt lv st) : G l X R cc own ret D tys A Q k n ws pc lv (st) := by
  obtain ⟨p, e, s, m, args, below, meth, c⟩ := X
  intro F H locs ls hP hD hS hl
  exact lv_goto F.1.1 F.1.2.1 hd ht (kk F H locs ls hP hD hS hl)
theorem r_if_eq {x : Int32} {off : Int} (tgt : Nat) (hd : decode cc pc = .ok (.ifCond .eq off, 3)) (ht : (pc : Int) + off = (tgt : Int)) (kt : x = 0 → G l X R cc own ret D tys A Q k n ws tgt lv st) (kf : ¬ (x = 0) → G l X R cc own ret D tys A Q k n ws (pc + 3) lv st) : G l X R cc own ret D tys A Q k n ws pc lv (.int x :: st) := by
  obtain ⟨p, e, s, m, args, below, meth, c⟩ := X
  intro F H locs ls hP hD hS hl
  exact lv_if_eq F.1.1 F.1.2.1 hd ht (fun z => kt z F H locs ls hP hD hS hl) (fun z => kf z F H locs ls hP hD hS hl)
theorem r_icmp_eq {x y : Int32} {off : Int} (tgt : Nat) (hd : decode cc pc = .ok (.if_icmp .eq off, 3)) (ht : (pc : Int) + off = (tgt : Int)) (kt : x = y → G l X R cc own ret D tys A Q k n ws tgt lv st) (kf : ¬ (x = y) → G l X R cc own ret D tys A Q k n ws (pc + 3) lv st) : G l X R cc own ret D tys A Q k n ws pc lv (.int y :: .int x :: st) := by
  obtain ⟨p, e, s, m, args, below, meth, c⟩ := X
  intro F H locs ls hP hD hS hl
  exact lv_icmp_eq F.1.1 F.1.2.1 hd ht (fun z => kt z F H locs ls hP hD hS hl) (fun z => kf z F H locs ls hP hD hS hl)
theorem r_if_ne {x : Int32} {off : Int} (tgt : Nat) (hd : decode cc pc = .ok (.ifCond .ne off, 3)) (ht : (pc : Int) + off = (tgt : Int)) (kt : ¬ x = 0 → G l X R cc own ret D tys A Q k n ws tgt lv st) (kf : x = 0 → G l X R cc own ret D tys A Q k n ws (pc + 3) lv st) : G l X R cc own ret D tys A Q k n ws pc lv (.int x :: st) := by
  obtain ⟨p, e, s, m, args, below, meth, c⟩ := X
  intro F H locs ls hP hD hS hl
  exact lv_if_ne F.1.1 F.1.2.1 hd ht (fun z => kt z F H locs ls hP hD hS hl) (fun z => kf z F H locs ls hP hD hS hl)
theorem r_icmp_ne {x y : Int32} {off : Int} (tgt : Nat) (hd : decode cc pc = .ok (.if_icmp .ne off, 3)) (ht : (pc : Int) + off = (tgt : Int)) (kt : ¬ x = y → G l X R cc own ret D tys A Q k n ws tgt lv st) (kf : x = y → G l X R cc own ret D tys A Q k n ws (pc + 3) lv st) : G l X R cc own ret D tys A Q k n ws pc lv (.int y :: .int x :: st) := by
  obtain ⟨p, e, s, m, args, below, meth, c⟩ := X
  intro F H locs ls hP hD hS hl
  exact lv_icmp_ne F.1.1 F.1.2.1 hd ht (fun z => kt z F H locs ls hP hD hS hl) (fun z => kf z F H locs ls hP hD hS hl)
theorem r_if_lt {x : Int32} {off : Int} (tgt : Nat) (hd : decode cc pc = .ok (.ifCond .lt off, 3)) (ht : (pc : Int) + off = (tgt : Int)) (kt : x < 0 → G l X R cc own ret D tys A Q k n ws tgt lv st) (kf : ¬ (x < 0) → G l X R cc own ret D tys A Q k n ws (pc + 3) lv st) : G l X R cc own ret D tys A Q k n ws pc lv (.int x :: st) := by
  obtain ⟨p, e, s, m, args, below, meth, c⟩ := X
  intro F H locs ls hP hD hS hl
  exact lv_if_lt F.1.1 F.1.2.1 hd ht (fun z => kt z F H locs ls hP hD hS hl) (fun z => kf z F H locs ls hP hD hS hl)
theorem r_icmp_lt {x y : Int32} {off : Int} (tgt : Nat) (hd : decode cc pc = .ok (.if_icmp .lt off, 3)) (ht : (pc : Int) + off = (tgt : Int)) (kt : x < y → G l X R cc own ret D tys A Q k n ws tgt lv st) (kf : ¬ (x < y) → G l X R cc own ret D tys A Q k n ws (pc + 3) lv st) : G l X R cc own ret D tys A Q k n ws pc lv (.int y :: .int x :: st) := by
  obtain ⟨p, e, s, m, args, below, meth, c⟩ := X
  intro F H locs ls hP hD hS hl
  exact lv_icmp_lt F.1.1 F.1.2.1 hd ht (fun z => kt z F H locs ls hP hD hS hl) (fun z => kf z F H locs ls hP hD hS hl)
theorem r_if_ge {x : Int32} {off : Int} (tgt : Nat) (hd : decode cc pc = .ok (.ifCond .ge off, 3)) (ht : (pc : Int) + off = (tgt : Int)) (kt : 0 ≤ x → G l X R cc own ret D tys A Q k n ws tgt lv st) (kf : ¬ (0 ≤ x) → G l X R cc own ret D tys A Q k n ws (pc + 3) lv st) : G l X R cc own ret D tys A Q k n ws pc lv (.int x :: st) := by
  obtain ⟨p, e, s, m, args, below, meth, c⟩ := X
  intro F H locs ls hP hD hS hl
  exact lv_if_ge F.1.1 F.1.2.1 hd ht (fun z => kt z F H locs ls hP hD hS hl) (fun z => kf z F H locs ls hP hD hS hl)
theorem r_icmp_ge {x y : Int32} {off : Int} (tgt : Nat) (hd : decode cc pc = .ok (.if_icmp .ge off, 3)) (ht : (pc : Int) + off = (tgt : Int)) (kt : y ≤ x → G l X R cc own ret D tys A Q k n ws tgt lv st) (kf : ¬ (y ≤ x) → G l X R cc own ret D tys A Q k n ws (pc + 3) lv st) : G l X R cc own ret D tys A Q k n ws pc lv (.int y :: .int x :: st) := by
  obtain ⟨p, e, s, m, args, below, meth, c⟩ := X
  intro F H locs ls hP hD hS hl
  exact lv_icmp_ge F.1.1 F.1.2.1 hd ht (fun z => kt z F H locs ls hP hD hS hl) (fun z => kf z F H locs ls hP hD hS hl)
theorem r_if_gt {x : Int32} {off : Int} (tgt : Nat) (hd : decode cc pc = .ok (.ifCond .gt off, 3)) (ht : (pc : Int) + off = (tgt : Int)) (kt : 0 < x → G l X R cc own ret D tys A Q k n ws tgt lv st) (kf : ¬ (0 < x) → G l X R cc own ret D tys A Q k n ws (pc + 3) lv st) : G l X R cc own ret D tys A Q k n ws pc lv (.int x :: st) := by
  obtain ⟨p, e, s, m, args, below, meth, c⟩ := X
  intro F H locs ls hP hD hS hl
  exact lv_if_gt F.1.1 F.1.2.1 hd ht (fun z => kt z F H locs ls hP hD hS hl) (fun z => kf z F H locs ls hP hD hS hl)
theorem r_icmp_gt {x y : Int32} {off : Int} (tgt : Nat) (hd : decode cc pc = .ok (.if_icmp .gt off, 3)) (ht : (pc : Int) + off = (tgt : Int)) (kt : y < x → G l X R cc own ret D tys A Q k n ws tgt lv st) (kf : ¬ (y < x) → G l X R cc own ret D tys A Q k n ws (pc + 3) lv st) : G l X R cc own ret D tys A Q k n ws pc lv (.int y :: .int x :: st) := by
  obtain ⟨p, e, s, m, args, below, meth, c⟩ := X
  intro F H locs ls hP hD hS hl
  exact lv_icmp_gt F.1.1 F.1.2.1 hd ht (fun z => kt z F H locs ls hP hD hS hl) (fun z => kf z F H locs ls hP hD hS hl)
theorem r_if_le {x : Int32} {off : Int} (tgt : Nat) (hd : decode cc pc = .ok (.ifCond .le off, 3)) (ht : (pc : Int) + off = (tgt : Int)) (kt : x ≤ 0 → G l X R cc own ret D tys A Q k n ws tgt lv st) (kf : ¬ (x ≤ 0) → G l X R cc own ret D tys A Q k n ws (pc + 3) lv st) : G l X R cc own ret D tys A Q k n ws pc lv (.int x :: st) := by
  obtain ⟨p, e, s, m, args, below, meth, c⟩ := X
  intro F H locs ls hP hD hS hl
  exact lv_if_le F.1.1 F.1.2.1 hd ht (fun z => kt z F H locs ls hP hD hS hl) (fun z => kf z F H locs ls hP hD hS hl)
theorem r_icmp_le {x y : Int32} {off : Int} (tgt : Nat) (hd : decode cc pc = .ok (.if_icmp .le off, 3)) (ht : (pc : Int) + off = (tgt : Int)) (kt : x ≤ y → G l X R cc own ret D tys A Q k n ws tgt lv st) (kf : ¬ (x ≤ y) → G l X R cc own ret D tys A Q k n ws (pc + 3) lv st) : G l X R cc own ret D tys A Q k n ws pc lv (.int y :: .int x :: st) := by
  obtain ⟨p, e, s, m, args, below, meth, c⟩ := X
  intro F H locs ls hP hD hS hl
  exact lv_icmp_le F.1.1 F.1.2.1 hd ht (fun z => kt z F H locs ls hP hD hS hl) (fun z => kf z F H locs ls hP hD hS hl)
theorem nI_inj {a b : Nat} (ha : a < 2 ^ 31) (hb : b < 2 ^ 31) : nI a = nI b ↔ a = b := ⟨fun h => by have := congrArg Int32.toInt h; rw [nI_toInt ha, nI_toInt hb] at this; omega, fun h => by rw [h]⟩
theorem nI_lt_iff {a b : Nat} (ha : a < 2 ^ 31) (hb : b < 2 ^ 31) : nI a < nI b ↔ a < b := by rw [Int32.lt_iff_toInt_lt, nI_toInt ha, nI_toInt hb]; omega
theorem nI_le_iff {a b : Nat} (ha : a < 2 ^ 31) (hb : b < 2 ^ 31) : nI a ≤ nI b ↔ a ≤ b := by rw [Int32.le_iff_toInt_le, nI_toInt ha, nI_toInt hb]; omega
theorem r_ncmp_eq {a b : Nat} {off : Int} (tgt : Nat) (ha : a < 2 ^ 31) (hb : b < 2 ^ 31) (hd : decode cc pc = .ok (.if_icmp .eq off, 3)) (ht : (pc : Int) + off = (tgt : Int)) (kt : a = b → G l X R cc own ret D tys A Q k n ws tgt lv st) (kf : ¬ a = b → G l X R cc own ret D tys A Q k n ws (pc + 3) lv st) : G l X R cc own ret D tys A Q k n ws pc lv (.int (nI b) :: .int (nI a) :: st) :=
  r_icmp_eq tgt hd ht (fun z => kt ((nI_inj ha hb).mp z)) (fun z => kf (fun e => z ((nI_inj ha hb).mpr e)))
theorem r_ncmp_ne {a b : Nat} {off : Int} (tgt : Nat) (ha : a < 2 ^ 31) (hb : b < 2 ^ 31) (hd : decode cc pc = .ok (.if_icmp .ne off, 3)) (ht : (pc : Int) + off = (tgt : Int)) (kt : ¬ a = b → G l X R cc own ret D tys A Q k n ws tgt lv st) (kf : a = b → G l X R cc own ret D tys A Q k n ws (pc + 3) lv st) : G l X R cc own ret D tys A Q k n ws pc lv (.int (nI b) :: .int (nI a) :: st) :=
  r_icmp_ne tgt hd ht (fun z => kt (fun e => z ((nI_inj ha hb).mpr e))) (fun z => kf ((nI_inj ha hb).mp z))
theorem r_ncmp_lt {a b : Nat} {off : Int} (tgt : Nat) (ha : a < 2 ^ 31) (hb : b < 2 ^ 31) (hd : decode cc pc = .ok (.if_icmp .lt off, 3)) (ht : (pc : Int) + off = (tgt : Int)) (kt : a < b → G l X R cc own ret D tys A Q k n ws tgt lv st) (kf : b ≤ a → G l X R cc own ret D tys A Q k n ws (pc + 3) lv st) : G l X R cc own ret D tys A Q k n ws pc lv (.int (nI b) :: .int (nI a) :: st) :=
  r_icmp_lt tgt hd ht (fun z => kt ((nI_lt_iff ha hb).mp z)) (fun z => kf (Nat.not_lt.mp (fun e => z ((nI_lt_iff ha hb).mpr e))))
theorem r_ncmp_ge {a b : Nat} {off : Int} (tgt : Nat) (ha : a < 2 ^ 31) (hb : b < 2 ^ 31) (hd : decode cc pc = .ok (.if_icmp .ge off, 3)) (ht : (pc : Int) + off = (tgt : Int)) (kt : b ≤ a → G l X R cc own ret D tys A Q k n ws tgt lv st) (kf : a < b → G l X R cc own ret D tys A Q k n ws (pc + 3) lv st) : G l X R cc own ret D tys A Q k n ws pc lv (.int (nI b) :: .int (nI a) :: st) :=
  r_icmp_ge tgt hd ht (fun z => kt ((nI_le_iff hb ha).mp z)) (fun z => kf (Nat.not_le.mp (fun e => z ((nI_le_iff hb ha).mpr e))))
theorem r_ncmp_gt {a b : Nat} {off : Int} (tgt : Nat) (ha : a < 2 ^ 31) (hb : b < 2 ^ 31) (hd : decode cc pc = .ok (.if_icmp .gt off, 3)) (ht : (pc : Int) + off = (tgt : Int)) (kt : b < a → G l X R cc own ret D tys A Q k n ws tgt lv st) (kf : a ≤ b → G l X R cc own ret D tys A Q k n ws (pc + 3) lv st) : G l X R cc own ret D tys A Q k n ws pc lv (.int (nI b) :: .int (nI a) :: st) :=
  r_icmp_gt tgt hd ht (fun z => kt ((nI_lt_iff hb ha).mp z)) (fun z => kf (Nat.not_lt.mp (fun e => z ((nI_lt_iff hb ha).mpr e))))
theorem r_ncmp_le {a b : Nat} {off : Int} (tgt : Nat) (ha : a < 2 ^ 31) (hb : b < 2 ^ 31) (hd : decode cc pc = .ok (.if_icmp .le off, 3)) (ht : (pc : Int) + off = (tgt : Int)) (kt : a ≤ b → G l X R cc own ret D tys A Q k n ws tgt lv st) (kf : b < a → G l X R cc own ret D tys A Q k n ws (pc + 3) lv st) : G l X R cc own ret D tys A Q k n ws pc lv (.int (nI b) :: .int (nI a) :: st) :=
  r_icmp_le tgt hd ht (fun z => kt ((nI_le_iff ha hb).mp z)) (fun z => kf (Nat.not_le.mp (fun e => z ((nI_le_iff ha hb).mpr e))))
theorem nI_ad (a b : Nat) : nI a + nI b = nI (a + b) := by
  induction b with
  | zero => rw [nI_0, Nat.add_zero]; exact Int32.add_zero _
  | succ b ih => rw [nI_succ, ← Int32.add_assoc, ih, ← Nat.add_assoc, nI_succ]
theorem nI_sb {a b : Nat} (h : b ≤ a) : nI a - nI b = nI (a - b) := by
  have e : nI a = nI (a - b) + nI b := by rw [nI_ad, Nat.sub_add_cancel h]
  rw [e, Int32.sub_eq_add_neg, Int32.add_assoc, ← Int32.sub_eq_add_neg, Int32.sub_self, Int32.add_zero]
theorem nI_ml (a b : Nat) : nI a * nI b = nI (a * b) := by
  induction b with
  | zero => rw [nI_0, Nat.mul_zero, nI_0]; exact Int32.mul_zero
  | succ b ih => rw [nI_succ, Int32.mul_add, ih, Int32.mul_one, nI_ad, Nat.mul_succ]
theorem nI_dv {a b : Nat} (ha : a < 2 ^ 31) (hb : b < 2 ^ 31) (h0 : 0 < b) : nI a / nI b = nI (a / b) := by
  have hq : a / b < 2 ^ 31 := Nat.lt_of_le_of_lt (Nat.div_le_self a b) ha
  apply Int32.toInt_inj.mp
  rw [Int32.toInt_div, nI_toInt ha, nI_toInt hb, nI_toInt hq]
  have e : ((a : Int).tdiv (b : Int)) = ((a / b : Nat) : Int) := by rw [Int.tdiv_eq_ediv_of_nonneg (by omega)]; rfl
  rw [e]
  clear e
  generalize a / b = q at hq ⊢
  rw [Int.bmod_eq_of_le] <;> omega
theorem nI_rem_z {a b : Nat} (hb : b < 2 ^ 31) (h0 : 0 < b) : ¬ nI b = 0 := nI_ne0 h0 hb
theorem r_niadd {a b : Nat} (hd : decode cc pc = .ok (.iadd, 1)) (kk : G l X R cc own ret D tys A Q k n ws (pc + 1) lv (.int (nI (a + b)) :: st)) : G l X R cc own ret D tys A Q k n ws pc lv (.int (nI b) :: .int (nI a) :: st) := r_iadd hd (r_top (nI_ad a b) kk)
theorem r_nimul {a b : Nat} (hd : decode cc pc = .ok (.imul, 1)) (kk : G l X R cc own ret D tys A Q k n ws (pc + 1) lv (.int (nI (a * b)) :: st)) : G l X R cc own ret D tys A Q k n ws pc lv (.int (nI b) :: .int (nI a) :: st) := r_imul hd (r_top (nI_ml a b) kk)
theorem r_nisub {a b : Nat} (h : b ≤ a) (hd : decode cc pc = .ok (.isub, 1)) (kk : G l X R cc own ret D tys A Q k n ws (pc + 1) lv (.int (nI (a - b)) :: st)) : G l X R cc own ret D tys A Q k n ws pc lv (.int (nI b) :: .int (nI a) :: st) := r_isub hd (r_top (nI_sb h) kk)
theorem r_nidiv {a b : Nat} (ha : a < 2 ^ 31) (hb : b < 2 ^ 31) (h0 : 0 < b) (hd : decode cc pc = .ok (.idiv, 1)) (kk : G l X R cc own ret D tys A Q k n ws (pc + 1) lv (.int (nI (a / b)) :: st)) : G l X R cc own ret D tys A Q k n ws pc lv (.int (nI b) :: .int (nI a) :: st) := r_idiv (nI_ne0 h0 hb) hd (r_top (nI_dv ha hb h0) kk)
theorem r_get {ix ci f a : Nat} {fs : List Value} {v : Value} (q0 : Nat) (hk : LkF own ix ci f) (hd : decode cc pc = .ok (.getfield ix, 3)) (he : ws[q0]? = some (a, .inr (ci, fs))) (hv : fs[f]? = some v) (kk : G l X R cc own ret D tys A Q k n ws (pc + 3) lv (v :: st)) : G l X R cc own ret D tys A Q k n ws pc lv (.ref a :: st) := by
  obtain ⟨p, e, s, m, args, below, meth, c⟩ := X
  intro F H locs ls hP hD hS hl
  obtain ⟨q, h1, h2, h3, h4⟩ := hk
  rcases h4 with h4 | ⟨host, h4⟩
  · exact va_get (C := q.1) (T := q.2.1) (N := q.2.2) F.1.1 F.1.2.1 F.1.2.2.2.2 h3 F.1.2.2.2.1 F.2.2.2.2 hP q0 he h1 f h2 (F.1.2.2.2.2 _ h4) (fun _ h => h) hv hd (kk F H locs ls hP hD hS hl)
  · exact va_getN (C := q.1) (T := q.2.1) (N := q.2.2) F.1.1 F.1.2.1 F.1.2.2.2.2 h3 F.1.2.2.2.1 F.2.2.2.2 hP q0 he h1 f h2 (F.1.2.2.2.2 _ h4) (fun _ h => h) hv hd (kk F H locs ls hP hD hS hl)
def tyOf : Nat → Nat → FieldType
  | 0 => tyX0
  | 1 => tyX1
  | 2 => tyX2
  | 3 => tyX3
  | 4 => tyX4
  | _ => tyX5
theorem ty_ok : ∀ (ci : Nat) (q : vw_C), vwCl[ci]? = some q → ∀ k, k < q.2.2 → parseFieldDescriptor (q.2.1 k).2.2.1 = some (tyOf ci k)
  | 0, _, h => by cases h; exact tyX0_ok
  | 1, _, h => by cases h; exact tyX1_ok
  | 2, _, h => by cases h; exact tyX2_ok
  | 3, _, h => by cases h; exact tyX3_ok
  | 4, _, h => by cases h; exact tyX4_ok
  | 5, _, h => by cases h; exact tyX5_ok
  | k + 6, _, h => by simp [vwCl] at h
theorem nm_ok : ∀ (ci : Nat) (q : vw_C), vwCl[ci]? = some q → ∀ a, a < q.2.2 → ∀ b, b < q.2.2 → a ≠ b → (q.2.1 a).2.1 ≠ (q.2.1 b).2.1
  | 0, _, h => by cases h; exact nmX0
  | 1, _, h => by cases h; exact nmX1
  | 2, _, h => by cases h; exact nmX2
  | 3, _, h => by cases h; exact nmX3
  | 4, _, h => by cases h; exact nmX4
  | 5, _, h => by cases h; exact nmX5
  | k + 6, _, h => by simp [vwCl] at h
def finOf (ci k : Nat) : Bool := match vwCl[ci]? with
  | some q => (q.2.1 k).2.2.2
  | none => false
def declOf (ci k : Nat) : String := match vwCl[ci]? with
  | some q => (q.2.1 k).1
  | none => ""
theorem r_put {ix ci f a : Nat} {fs : List Value} {v : Value} (q0 : Nat) (ws' : va_W) (hk : LkF own ix ci f) (hd : decode cc pc = .ok (.putfield ix, 3)) (he : ws[q0]? = some (a, .inr (ci, fs))) (hfin : finOf ci f = false) (hn : narrow (tyOf ci f) v = v) (hfit : fits (tyOf ci f) v = true) (hl0 : f < fs.length) (hs : ws.set q0 (a, .inr (ci, fs.set f v)) = ws') (kk : G l X R cc own ret D tys A Q k n ws' (pc + 3) lv st) : G l X R cc own ret D tys A Q k n ws pc lv (v :: .ref a :: st) := by
  obtain ⟨p, e, s, m, args, below, meth, c⟩ := X
  intro F H locs ls hP hD hS hl
  subst hs
  obtain ⟨q, h1, h2, h3, h4⟩ := hk
  have hfin : (q.2.1 f).2.2.2 = false := by unfold finOf at hfin; rw [h1] at hfin; exact hfin
  rcases h4 with h4 | ⟨host, h4⟩
  · exact va_put (C := q.1) (T := q.2.1) (N := q.2.2) F.1.1 F.1.2.1 F.1.2.2.2.2 h3 (tyOf ci) (ty_ok ci q h1) (nm_ok ci q h1) F.1.2.2.2.1 F.2.2.2.2 hP hD hS q0 he h1 f h2 (F.1.2.2.2.2 _ h4) (fun _ h => h) hfin (ty_ok ci q h1 f h2) hn hfit hl0 hd (fun H1 locs1 hP hD hS => kk F H1 locs1 ls hP hD hS hl)
  · exact va_putN (C := q.1) (T := q.2.1) (N := q.2.2) F.1.1 F.1.2.1 F.1.2.2.2.2 h3 (tyOf ci) (ty_ok ci q h1) (nm_ok ci q h1) F.1.2.2.2.1 F.2.2.2.2 hP hD hS q0 he h1 f h2 (F.1.2.2.2.2 _ h4) (fun _ h => h) hfin (ty_ok ci q h1 f h2) hn hfit hl0 hd (fun H1 locs1 hP hD hS => kk F H1 locs1 ls hP hD hS hl)
theorem r_iald {a N : Nat} {cA : ClassId} {f : Nat → Int32} {i : Int32} (q0 j : Nat) (hd : decode cc pc = .ok (.iaload, 1)) (he : ws[q0]? = some (a, .inl (cA, N, .inl f))) (ht : tys[0]? = some (cA, .int)) (hi : i = nI j) (hj : j < N) (hN : N < 2 ^ 31) (kk : G l X R cc own ret D tys A Q k n ws (pc + 1) lv (.int (f j) :: st)) : G l X R cc own ret D tys A Q k n ws pc lv (.int i :: .ref a :: st) := by
  obtain ⟨p, e, s, m, args, below, meth, c⟩ := X
  intro F H locs ls hP hD hS hl
  subst hi
  refine va_iald F.1.1 F.1.2.1 F.2.2.2.2 hP q0 0 he ht (vp_in_nI hj hN) hd ?_
  rw [nI_clamp (Nat.lt_trans hj hN)]
  exact (kk F H locs ls hP hD hS hl)
theorem r_iast {a N : Nat} {cA : ClassId} {f : Nat → Int32} {i x : Int32} (q0 j : Nat) (ws' : va_W) (hd : decode cc pc = .ok (.iastore, 1)) (he : ws[q0]? = some (a, .inl (cA, N, .inl f))) (ht : tys[0]? = some (cA, .int)) (hi : i = nI j) (hj : j < N) (hN : N < 2 ^ 31) (hs : ws.set q0 (a, .inl (cA, N, .inl (upd f j x))) = ws') (kk : G l X R cc own ret D tys A Q k n ws' (pc + 1) lv st) : G l X R cc own ret D tys A Q k n ws pc lv (.int x :: .int i :: .ref a :: st) := by
  obtain ⟨p, e, s, m, args, below, meth, c⟩ := X
  intro F H locs ls hP hD hS hl
  subst hi
  subst hs
  refine va_iast F.1.1 F.1.2.1 F.2.2.2.2 hP hD hS q0 0 he ht (vp_in_nI hj hN) hd ?_
  rw [nI_clamp (Nat.lt_trans hj hN)]
  exact fun H1 locs1 hP hD hS => kk F H1 locs1 ls hP hD hS hl
theorem r_alen {a : Nat} {cA : ClassId} {x : vp_A} {ty : FieldType} (q0 t0 : Nat) (hd : decode cc pc = .ok (.arraylength, 1)) (he : ws[q0]? = some (a, .inl (cA, x))) (ht : tys[t0]? = some (cA, ty)) (kk : G l X R cc own ret D tys A Q k n ws (pc + 1) lv (.int (nI x.1) :: st)) : G l X R cc own ret D tys A Q k n ws pc lv (.ref a :: st) := by
  obtain ⟨p, e, s, m, args, below, meth, c⟩ := X
  intro F H locs ls hP hD hS hl
  exact va_alen F.1.1 F.1.2.1 F.2.2.2.2 hP q0 t0 he ht rfl hd (kk F H locs ls hP hD hS hl)
theorem r_lookup {dflt off : Int} {ps : Array (Int × Int)} {len : Nat} {x : Int32} (tgt : Nat) (hd : decode cc pc = .ok (.lookupswitch dflt ps, len)) (hp : (ps.toList.zip (ps.toList.drop 1)).all (fun (a, next) => a.1 < next.1) = true) (ho : Op.lookupswitch.offset ps.toList dflt x.toInt = off) (ht : (pc : Int) + off = (tgt : Int)) (kk : G l X R cc own ret D tys A Q k n ws tgt lv st) : G l X R cc own ret D tys A Q k n ws pc lv (.int x :: st) := by
  obtain ⟨p, e, s, m, args, below, meth, c⟩ := X
  intro F H locs ls hP hD hS hl
  exact lv_lookup F.1.1 F.1.2.1 hd hp ho ht (kk F H locs ls hP hD hS hl)
theorem r_tabOut {dflt lo hi : Int} {offs : Array Int} {len : Nat} {x : Int32} (tgt : Nat) (hd : decode cc pc = .ok (.tableswitch dflt lo hi offs, len)) (h : x.toInt < lo ∨ hi < x.toInt) (ht : (pc : Int) + dflt = (tgt : Int)) (kk : G l X R cc own ret D tys A Q k n ws tgt lv st) : G l X R cc own ret D tys A Q k n ws pc lv (.int x :: st) := by
  obtain ⟨p, e, s, m, args, below, meth, c⟩ := X
  intro F H locs ls hP hD hS hl
  exact lv_tableOut F.1.1 F.1.2.1 hd h ht (kk F H locs ls hP hD hS hl)
theorem r_tabIn {dflt lo hi off : Int} {offs : Array Int} {len : Nat} {x : Int32} (tgt : Nat) (hd : decode cc pc = .ok (.tableswitch dflt lo hi offs, len)) (h1 : ¬ x.toInt < lo) (h2 : ¬ hi < x.toInt) (ho : offs[(x.toInt - lo).toNat]? = some off) (ht : (pc : Int) + off = (tgt : Int)) (kk : G l X R cc own ret D tys A Q k n ws tgt lv st) : G l X R cc own ret D tys A Q k n ws pc lv (.int x :: st) := by
  obtain ⟨p, e, s, m, args, below, meth, c⟩ := X
  intro F H locs ls hP hD hS hl
  exact lv_tableIn F.1.1 F.1.2.1 hd h1 h2 ho ht (kk F H locs ls hP hD hS hl)
end GR
end
section
/-- a contract's end: the answer v and the state u are such that post; the cells are then w' u; nothing else changed -/
def Qc (D : va_G) (tys : List (ClassId × FieldType)) (w : va_W) (sz : Nat) (S : Type) (post : Option Value → S → Prop) (w' : S → va_W) : Array Value → State → Outcome → State → Prop := fun _ st oc t => (∃ (v : Option Value) (u : S), oc = .returned v ∧ post v u ∧ va_P D vwCl (w' u) t.heap ∧ va_K D vwCl tys t ∧ va_D (va_A w sz) (w' u)) ∧ va_F (va_A w sz) st t
def QX (X : Cx) (D : va_G) (tys : List (ClassId × FieldType)) (w : va_W) (sz : Nat) (S : Type) (post : Option Value → S → Prop) (w' : S → va_W) (mc ms : Nat) : State → Prop := match X with
  | (_, _, s, _, args, below, _, _) => MQ below (Qc D tys w sz S post w') args s mc ms (va_A w sz)
def PcX (D : va_G) (tys : List (ClassId × FieldType)) (av : List Value) (w : va_W) (sz : Nat) : Array Value → State → Prop := va_Pc av (fun U => U.heap.size = sz ∧ va_P D vwCl w U.heap ∧ va_K D vwCl tys U ∧ va_D (fun _ => True) w)
theorem pc_blind {D : va_G} {tys : List (ClassId × FieldType)} {av : List Value} {w : va_W} {sz : Nat} : FrameBlind (PcX D tys av w sz) := fun a U g mk q => by
  obtain ⟨q0, q1, qP, qK, qD⟩ := q
  exact ⟨q0, q1, qP, va_K.moved (u := U) (U := U.calling g mk a) (Vm.Alike.refl U.vm) qK, qD⟩
/-- a method's contract: called with av over the cells w -/
def Mt (l : Launch) (D : va_G) (tys : List (ClassId × FieldType)) (y : MethodName) (b : ByteArray) (n : Nat) (ret : Option FieldType) (rm : Room) (av : List Value) (w : va_W) (S : Type) (post : Option Value → S → Prop) (w' : S → va_W) (mc ms : Nat) : Prop :=
  ∀ sz : Nat, Met l y (Cond.code y b n ret :: TB) rm (PcX D tys av w sz) (Qc D tys w sz S post w') mc ms (va_A w sz)
theorem lv_args_mem : ∀ (av : List Value), (∀ v ∈ av, v.category = 1) → ∀ (k j i : Nat) (v : Value), (av.map some ++ List.replicate k (none : Option Value))[i]? = some (some v) → (j + i, v) ∈ lv_args j av
  | [], _, k, j, i, v, h => by
    simp [List.getElem?_replicate] at h
  | a :: av, hc, k, j, i, v, h => by
    have ha : a.category = 1 := hc a List.mem_cons_self
    cases i with
    | zero =>
      simp at h
      subst h
      exact List.mem_cons_self
    | succ i =>
      have h2 : (av.map some ++ List.replicate k (none : Option Value))[i]? = some (some v) := by simpa using h
      have h3 := lv_args_mem av (fun v hv => hc v (List.mem_cons_of_mem _ hv)) k (j + 1) i v h2
      have e : lv_args j (a :: av) = (j, a) :: lv_args (j + 1) av := by simp [lv_args, ha]
      rw [e, show j + (i + 1) = j + 1 + i by omega]
      exact List.mem_cons_of_mem _ h3
theorem mt_of {l : Launch} {D : va_G} {tys : List (ClassId × FieldType)} {y : MethodName} {b : ByteArray} {n : Nat} {ret : Option FieldType} {rm : Room} {av : List Value} {w : va_W} {S : Type} {post : Option Value → S → Prop} {w' : S → va_W} {mc ms : Nat} (lv : Lv)
    (hy : plainName y.cls = true) (hc : ∀ v ∈ av, v.category = 1) (hle : (lg_sl av).length ≤ n) (hlv : av.map some ++ List.replicate (n - av.length) none = lv) (hn : lv.length = n)
    (body : ∀ (X : Cx) (sz : Nat), G l X rm b y.cls ret D tys (va_A w sz) (QX X D tys w sz S post w' mc ms) 0 0 w 0 lv []) : Mt l D tys y b n ret rm av w S post w' mc ms := by
  intro sz
  refine Met.ofW (cc := b) (maxL := n) (ret := ret) hy rfl ?_
  intro p e s m args below meth c s₁ B hml hv
  obtain ⟨rfl, hsz, hP, hK, hD0⟩ := hv
  subst hsz
  have hts := atoms_spec (ws := Cond.code y b n ret :: TB) B.pre
  have hle2 := lv_entry av hle
  rw [lg_entry_eq]
  refine body (p, e, s, m, av.toArray, below, meth, c) s.heap.size ⟨⟨B.exec, B.bytes, hml.trans hn.symm, findClass_of_methodNamed B.named, fun w hw => hts w (List.mem_cons_of_mem _ hw)⟩, B.returns, B.notSynchronized, fun q h => Or.inr h, hK⟩ s.heap [] _ hP (hD0.self (sz := s.heap.size)) va_S.rf ⟨hle2.1.trans hn.symm, hle2.2.1, fun i v hi => ?_⟩
  rw [← hlv] at hi
  have h := lv_args_mem av hc _ 0 i v hi
  rw [Nat.zero_add] at h
  exact hle2.2.2 (i, v) h
/-- the cells at some places -/
abbrev pick (ws : va_W) (is : List Nat) : va_W := is.filterMap (fun i => ws[i]?)
theorem fm_of_map {ws ws' : va_W} {is : List Nat} (h : is.map (fun i => ws[i]?) = ws'.map some) : is.filterMap (fun i => ws[i]?) = ws' := by
  have e : is.filterMap (fun i => ws[i]?) = (is.map (fun i => ws[i]?)).filterMap id := by rw [List.filterMap_map]; rfl
  rw [e, h, List.filterMap_map]
  simp
section GC
variable {l : Launch} {X : Cx} {R : Room} {cc : ByteArray} {own : String} {ret : Option FieldType} {D : va_G} {tys : List (ClassId × FieldType)} {A : Nat → Prop} {Q : State → Prop} {k n : Nat} {ws : va_W} {pc : Nat} {lv : Lv} {st : List Value}
theorem r_iret {S : Type} {post : Option Value → S → Prop} {w' : S → va_W} {w : va_W} {sz : Nat} {v : Int32} (u : S) (hd : decode cc pc = .ok (.ireturn, 1)) (hp : post (some (.int v)) u) (hw : ws = w' u) : G l X R cc own (some .int) D tys (va_A w sz) (QX X D tys w sz S post w' k n) k n ws pc lv [.int v] := by
  obtain ⟨p, e, s, m, args, below, meth, c⟩ := X
  intro F H locs ls hP hD hS hl
  subst hw
  exact W.iret F.1.1 F.1.2.1 F.2.1 (fun t ht hW => ⟨⟨_, u, rfl, hp, by rw [ht]; exact hP, va_K.moved hW.alike F.2.2.2.2, hD⟩, hS.F ht⟩) hS.2.2 hd F.2.2.1
theorem r_zret {S : Type} {post : Option Value → S → Prop} {w' : S → va_W} {w : va_W} {sz : Nat} {v : Int32} (u : S) (hn : narrow .boolean (.int v) = .int v) (hd : decode cc pc = .ok (.ireturn, 1)) (hp : post (some (.int v)) u) (hw : ws = w' u) : G l X R cc own (some .boolean) D tys (va_A w sz) (QX X D tys w sz S post w' k n) k n ws pc lv [.int v] := by
  obtain ⟨p, e, s, m, args, below, meth, c⟩ := X
  intro F H locs ls hP hD hS hl
  subst hw
  exact W.zret F.1.1 F.1.2.1 F.2.1 hn (fun t ht hW => ⟨⟨_, u, rfl, hp, by rw [ht]; exact hP, va_K.moved hW.alike F.2.2.2.2, hD⟩, hS.F ht⟩) hS.2.2 hd F.2.2.1
theorem r_lret {S : Type} {post : Option Value → S → Prop} {w' : S → va_W} {w : va_W} {sz : Nat} {v : Int64} (u : S) (hd : decode cc pc = .ok (.lreturn, 1)) (hp : post (some (.long v)) u) (hw : ws = w' u) : G l X R cc own (some .long) D tys (va_A w sz) (QX X D tys w sz S post w' k n) k n ws pc lv [.long v] := by
  obtain ⟨p, e, s, m, args, below, meth, c⟩ := X
  intro F H locs ls hP hD hS hl
  subst hw
  exact W.lret F.1.1 F.1.2.1 F.2.1 (fun t ht hW => ⟨⟨_, u, rfl, hp, by rw [ht]; exact hP, va_K.moved hW.alike F.2.2.2.2, hD⟩, hS.F ht⟩) hS.2.2 hd F.2.2.1
theorem r_vret {S : Type} {post : Option Value → S → Prop} {w' : S → va_W} {w : va_W} {sz : Nat} (u : S) (hd : decode cc pc = .ok (.return_, 1)) (hp : post none u) (hw : ws = w' u) : G l X R cc own none D tys (va_A w sz) (QX X D tys w sz S post w' k n) k n ws pc lv [] := by
  obtain ⟨p, e, s, m, args, below, meth, c⟩ := X
  intro F H locs ls hP hD hS hl
  subst hw
  exact W.vret F.1.1 F.1.2.1 F.2.1 (fun t ht hW => ⟨⟨_, u, rfl, hp, by rw [ht]; exact hP, va_K.moved hW.alike F.2.2.2.2, hD⟩, hS.F ht⟩) hS.2.2 hd F.2.2.1
/-- behind a call -/
theorem run_fin {p : Program} {e : Env} {s : State} {m : MethodId} {args : Array Value} {below : List Frame} {meth : Method} {c : Code} {H : Heap} {locs : List Loc} {ls : Array Slot} {stk : List Value} {S : Type} {post : Option Value → S → Prop} {wc wr : va_W} {wc' : S → va_W} {a : Array Value} {mc ms : Nat} (isC isR : List Nat) (ws' : S → va_W) (isP : List Nat)
    (F : Fx (p, e, s, m, args, below, meth, c) cc lv.length own ret D tys A) (hP : va_P D vwCl ws H) (hD : va_D A ws) (hS : va_S A s.heap H locs) (hl : lh ls lv)
    (hC : isC.map (fun i => ws[i]?) = wc.map some) (hRr : isR.map (fun i => ws[i]?) = wr.map some) (hnR : va_nd isR = true) (hdis : ∀ i ∈ isR, i ∉ isC) (hPm : ∀ u, isP.map (fun i => (wr ++ wc' u)[i]?) = (ws' u).map some) (hPn : va_nd isP = true)
    (hrun : va_Run p l e R s m args below meth c H locs k n mc ms (F0 m pc ls stk) st (Qc D tys wc H.size S post wc' a) (va_A wc H.size))
    (kk : ∀ (v : Option Value) (u : S), post v u → G l (p, e, s, m, args, below, meth, c) R cc own ret D tys A Q (k + mc) (n + ms) (ws' u) (pc + 3) lv (v.toList ++ st)) : W p l e R s m args below meth c H locs k n Q (F0 m pc ls stk) := by
  intro T hT XX
  have hFc := va_free (wc := wc) hD hS F.2.2.2.1 isC hC
  obtain ⟨v, st₀, t, T', L, h0, X', hL, e1, e2, ⟨⟨v2, u, hv, hp, hB1, hB2, hB3⟩, hz, hk⟩, stp⟩ := hrun T hT XX
  cases hv
  rw [h0] at hz hk
  have j := va_join hP hD isC isR hC hRr hnR hdis (H1 := T'.heap) (fun q h1 h2 => by rw [e1]; exact hk q h1 h2) hFc (by rw [e1]; exact hB1) hB3
  obtain ⟨t2, a1, b1⟩ := kk v u hp F T'.heap (locs ++ L) ls (j.1.sub isP (fm_of_map (hPm u))) (j.2.sub isP hPn (hPm u))
    ⟨Nat.le_trans hS.1 (by rw [e1]; exact hz), fun q h1 h2 => by rw [e1, hk q (Nat.lt_of_lt_of_le h1 hS.1) (fun z => h2 (hFc q z))]; exact hS.2.1 q h1 h2, fun q hq => by
      rcases List.mem_append.mp hq with h | h
      · exact hS.2.2 q h
      · exact hFc _ (hL q h)⟩ hl T' rfl X'
  exact ⟨t2, stp t2 a1, b1⟩
theorem pay_y {args : Array Value} {s : State} (hts : ∀ w ∈ TB, w.before args s = true) {y : MethodName} {b : ByteArray} {n : Nat} {ret : Option FieldType} (h : Cond.code y b n ret ∈ TB) : ∀ w ∈ Cond.code y b n ret :: TB, ∀ (a' : Array Value) (U : State), s.WarmedH U.vm → w.before a' U = true := by
  intro w hw
  rcases List.mem_cons.mp hw with h1 | h1
  · subst h1; exact TB_pay hts _ h
  · exact TB_pay hts _ h1
theorem np_of {y : MethodName} {np : Nat} (h : (parseMethodDescriptor y.desc).map (fun d => d.parameters.length) = some np) : ∀ sig, parseMethodDescriptor y.desc = some sig → np = sig.parameters.length := fun sig h1 => by
  rw [h1] at h
  exact (Option.some.inj h).symm
/-- what a call's room asks -/
def RmOk (R rm : Room) (n' mc ms k n : Nat) : Bool := (rm.cells == mc && rm.slots == ms) && (Nat.ble (rm.frames + 1) R.frames && Nat.ble (8 + (n' + 11) + rm.locals) R.locals) && (Nat.ble (k + mc) R.cells && Nat.ble (n + ms) R.slots)
theorem RmOk.of {R rm : Room} {n' mc ms k n : Nat} (h : RmOk R rm n' mc ms k n = true) : rm.cells = mc ∧ rm.slots = ms ∧ rm.frames + 1 ≤ R.frames ∧ 8 + (n' + 11) + rm.locals ≤ R.locals ∧ k + mc ≤ R.cells ∧ n + ms ≤ R.slots := by
  unfold RmOk at h
  simp only [Bool.and_eq_true, beq_iff_eq] at h
  obtain ⟨⟨⟨h1, h2⟩, h3, h4⟩, h5, h6⟩ := h
  exact ⟨h1, h2, Nat.le_of_ble_eq_true h3, Nat.le_of_ble_eq_true h4, Nat.le_of_ble_eq_true h5, Nat.le_of_ble_eq_true h6⟩
theorem r_callV {S : Type} {post : Option Value → S → Prop} {wc : va_W} {wc' : S → va_W} {y : MethodName} {b' : ByteArray} {n' np ix mc ms q ci : Nat} {ret' : Option FieldType} {rm' : Room} {As stk : List Value} {fs : List Value} {T : u_T} {N : Nat} (isC isR : List Nat) (ws' : S → va_W) (isP : List Nat)
    (hM : Mt l D tys y b' n' ret' rm' (.ref q :: As) wc S post wc' mc ms) (hkv : LkV y b' n' ret' np) (hkm : LkM own ix y) (hd : decode cc pc = .ok (.invokevirtual ix, 3)) (hnp : As.length = np) (hrm : RmOk R rm' n' mc ms k n = true)
    (hrv : wc[0]? = some (q, .inr (ci, fs))) (hcl : vwCl[ci]? = some (y.cls, T, N))
    (hC : isC.map (fun i => ws[i]?) = wc.map some) (hRr : isR.map (fun i => ws[i]?) = (pick ws isR).map some) (hnC : va_nd isC = true) (hnR : va_nd isR = true) (hdis : ∀ i ∈ isR, i ∉ isC) (hPm : ∀ u, isP.map (fun i => (pick ws isR ++ wc' u)[i]?) = (ws' u).map some) (hPn : va_nd isP = true)
    (hst : stk = As.reverse ++ .ref q :: st) (hsum : (st.map fun v => v.category).sum ≤ 8)
    (kk : ∀ (v : Option Value) (u : S), post v u → G l X R cc own ret D tys A Q (k + mc) (n + ms) (ws' u) (pc + 3) lv (v.toList ++ st)) : G l X R cc own ret D tys A Q k n ws pc lv stk := by
  obtain ⟨p, e, s, m, args, below, meth, c⟩ := X
  intro F H locs ls hP hD hS hl
  have hPc := hP.sub isC (fm_of_map hC)
  have hDc := hD.sub isC hnC hC
  have hK := F.2.2.2.2
  have hts := F.1.2.2.2.2
  obtain ⟨r1, r2, r3, r4, r5, r6⟩ := RmOk.of hrm
  obtain ⟨⟨h1, h2, h3, h4, h5⟩, hin, hsel⟩ := hkv
  have pre : PreV s H y.cls q (PcX D tys (.ref q :: As) wc H.size) As := ⟨pc_blind, va_recv hK hPc (q0 := 0) hcl hrv, fun U hU hW => ⟨rfl, by rw [hU], by rw [hU]; exact hPc, va_K.moved hW.alike hK, hDc.weaken (fun _ _ _ _ => trivial)⟩⟩
  refine run_fin (a := (.ref q :: As).toArray) (wc := wc) (wc' := wc') isC isR ws' isP F hP hD hS hl hC hRr hnR hdis hPm hPn ?_ kk
  rcases hkm with hkm | ⟨host, hkm⟩
  · exact va_runV F.1 (hM H.size) ⟨⟨r1, r2, r3, r4, pay_y hts h1, List.mem_cons_self, hts _ h1, hts _ h2, ⟨h3, h4⟩, np_of h5, hts _ hkm⟩, hts _ hin, hts _ hsel⟩ pre rfl hnp hl.1 hst (lv_room hsum) hd ⟨r5, r6⟩
  · exact va_runVN F.1 (hM H.size) ⟨⟨⟨r1, r2, r3, r4, pay_y hts h1, List.mem_cons_self⟩, hts _ h1, hts _ h2, ⟨h3, h4⟩, np_of h5, hts _ hkm⟩, hts _ hin, hts _ hsel⟩ pre rfl hnp hl.1 hst (lv_room hsum) hd ⟨r5, r6⟩
theorem r_callS {S : Type} {post : Option Value → S → Prop} {wc : va_W} {wc' : S → va_W} {y : MethodName} {b' : ByteArray} {n' np ix mc ms : Nat} {ret' : Option FieldType} {rm' : Room} {As stk : List Value} (isC isR : List Nat) (ws' : S → va_W) (isP : List Nat)
    (hM : Mt l D tys y b' n' ret' rm' As wc S post wc' mc ms) (hkv : LkS y b' n' ret' np) (hkm : LkM own ix y) (hd : decode cc pc = .ok (.invokestatic ix, 3)) (hnp : As.length = np) (hrm : RmOk R rm' n' mc ms k n = true)
    (hC : isC.map (fun i => ws[i]?) = wc.map some) (hRr : isR.map (fun i => ws[i]?) = (pick ws isR).map some) (hnC : va_nd isC = true) (hnR : va_nd isR = true) (hdis : ∀ i ∈ isR, i ∉ isC) (hPm : ∀ u, isP.map (fun i => (pick ws isR ++ wc' u)[i]?) = (ws' u).map some) (hPn : va_nd isP = true)
    (hst : stk = As.reverse ++ st) (hsum : (st.map fun v => v.category).sum ≤ 8)
    (kk : ∀ (v : Option Value) (u : S), post v u → G l X R cc own ret D tys A Q (k + mc) (n + ms) (ws' u) (pc + 3) lv (v.toList ++ st)) : G l X R cc own ret D tys A Q k n ws pc lv stk := by
  obtain ⟨p, e, s, m, args, below, meth, c⟩ := X
  intro F H locs ls hP hD hS hl
  have hPc := hP.sub isC (fm_of_map hC)
  have hDc := hD.sub isC hnC hC
  have hK := F.2.2.2.2
  have hts := F.1.2.2.2.2
  obtain ⟨r1, r2, r3, r4, r5, r6⟩ := RmOk.of hrm
  obtain ⟨⟨h1, h2, h3, h4, h5⟩, hstt⟩ := hkv
  have pre : PreS s H (PcX D tys As wc H.size) As := ⟨pc_blind, fun U hU hW => ⟨rfl, by rw [hU], by rw [hU]; exact hPc, va_K.moved hW.alike hK, hDc.weaken (fun _ _ _ _ => trivial)⟩⟩
  refine run_fin (a := As.toArray) (wc := wc) (wc' := wc') isC isR ws' isP F hP hD hS hl hC hRr hnR hdis hPm hPn ?_ kk
  rcases hkm with hkm | ⟨host, hkm⟩
  · exact va_runS F.1 (hM H.size) ⟨⟨r1, r2, r3, r4, pay_y hts h1, List.mem_cons_self, hts _ h1, hts _ h2, ⟨h3, h4⟩, np_of h5, hts _ hkm⟩, hts _ hstt⟩ pre rfl hnp hl.1 hst (lv_room hsum) hd ⟨r5, r6⟩
  · exact va_runSN F.1 (hM H.size) ⟨⟨⟨r1, r2, r3, r4, pay_y hts h1, List.mem_cons_self⟩, hts _ h1, hts _ h2, ⟨h3, h4⟩, np_of h5, hts _ hkm⟩, hts _ hstt, trivial⟩ pre rfl hnp hl.1 hst (lv_room hsum) hd ⟨r5, r6⟩
theorem r_callI {S : Type} {post : Option Value → S → Prop} {wc : va_W} {wc' : S → va_W} {y : MethodName} {b' : ByteArray} {n' np ix mc ms q : Nat} {rm' : Room} {As stk : List Value} (isC isR : List Nat) (ws' : S → va_W) (isP : List Nat)
    (hM : Mt l D tys y b' n' none rm' (.ref q :: As) wc S post wc' mc ms) (hkv : LkI y b' n' np) (hkm : LkM own ix y) (hd : decode cc pc = .ok (.invokespecial ix, 3)) (hnp : As.length = np) (hrm : RmOk R rm' n' mc ms k n = true)
    (hC : isC.map (fun i => ws[i]?) = wc.map some) (hRr : isR.map (fun i => ws[i]?) = (pick ws isR).map some) (hnC : va_nd isC = true) (hnR : va_nd isR = true) (hdis : ∀ i ∈ isR, i ∉ isC) (hPm : ∀ u, isP.map (fun i => (pick ws isR ++ wc' u)[i]?) = (ws' u).map some) (hPn : va_nd isP = true)
    (hst : stk = As.reverse ++ .ref q :: st) (hsum : (st.map fun v => v.category).sum ≤ 8)
    (kk : ∀ (v : Option Value) (u : S), post v u → G l X R cc own ret D tys A Q (k + mc) (n + ms) (ws' u) (pc + 3) lv (v.toList ++ st)) : G l X R cc own ret D tys A Q k n ws pc lv stk := by
  obtain ⟨p, e, s, m, args, below, meth, c⟩ := X
  intro F H locs ls hP hD hS hl
  have hPc := hP.sub isC (fm_of_map hC)
  have hDc := hD.sub isC hnC hC
  have hK := F.2.2.2.2
  have hts := F.1.2.2.2.2
  obtain ⟨r1, r2, r3, r4, r5, r6⟩ := RmOk.of hrm
  obtain ⟨⟨h1, h2, h3, h4, h5⟩, hin, hy1⟩ := hkv
  have pre : PreS s H (PcX D tys (.ref q :: As) wc H.size) (.ref q :: As) := ⟨pc_blind, fun U hU hW => ⟨rfl, by rw [hU], by rw [hU]; exact hPc, va_K.moved hW.alike hK, hDc.weaken (fun _ _ _ _ => trivial)⟩⟩
  refine run_fin (a := (.ref q :: As).toArray) (wc := wc) (wc' := wc') isC isR ws' isP F hP hD hS hl hC hRr hnR hdis hPm hPn ?_ kk
  rcases hkm with hkm | ⟨host, hkm⟩
  · exact va_runI F.1 (hM H.size) ⟨⟨r1, r2, r3, r4, pay_y hts h1, List.mem_cons_self, hts _ h1, hts _ h2, ⟨h3, h4⟩, np_of h5, hts _ hkm⟩, hy1, hts _ hin⟩ pre rfl hnp hl.1 hst (lv_room hsum) hd ⟨r5, r6⟩
  · exact va_runIN F.1 (hM H.size) ⟨⟨⟨r1, r2, r3, r4, pay_y hts h1, List.mem_cons_self⟩, hts _ h1, hts _ h2, ⟨h3, h4⟩, np_of h5, hts _ hkm⟩, hy1, hts _ hin⟩ pre rfl hnp hl.1 hst (lv_room hsum) hd ⟨r5, r6⟩
end GC
end
section
def bI (b : Bool) : Int32 := if b then 1 else 0
theorem bI_t : bI true = 1 := rfl
theorem bI_f : bI false = 0 := rfl
theorem bI_nar (b : Bool) : narrow .boolean (.int (bI b)) = .int (bI b) := by cases b <;> decide +kernel
theorem nI_m1 {c : Nat} (h : 0 < c) : nI c + Int32.ofInt (-1) = nI (c - 1) := by
  obtain ⟨d, rfl⟩ : ∃ d, c = d + 1 := ⟨c - 1, by omega⟩
  rw [nI_succ, Nat.add_sub_cancel, Int32.add_assoc]
  rw [show (1 : Int32) + Int32.ofInt (-1) = 0 by decide +kernel, Int32.add_zero]
abbrev tyS (cA cB : ClassId) : List (ClassId × FieldType) := [(cA, .int), (cB, .object RX1)]
section GB
variable {l : Launch} {X : Cx} {R : Room} {cc : ByteArray} {own : String} {ret : Option FieldType} {D : va_G} {tys : List (ClassId × FieldType)} {A : Nat → Prop} {Q : State → Prop} {k n : Nat} {ws : va_W} {pc : Nat} {lv : Lv} {st : List Value}
theorem r_st {st' : List Value} (h : st = st') (kk : G l X R cc own ret D tys A Q k n ws pc lv st') : G l X R cc own ret D tys A Q k n ws pc lv st := by
  subst h; exact kk
theorem r_lv {lv' : Lv} (h : lv = lv') (kk : G l X R cc own ret D tys A Q k n ws pc lv' st) : G l X R cc own ret D tys A Q k n ws pc lv st := by
  subst h; exact kk
theorem r_bif_eq {b : Bool} {off : Int} (tgt : Nat) (hd : decode cc pc = .ok (.ifCond .eq off, 3)) (ht : (pc : Int) + off = (tgt : Int)) (kt : b = false → G l X R cc own ret D tys A Q k n ws tgt lv st) (kf : b = true → G l X R cc own ret D tys A Q k n ws (pc + 3) lv st) : G l X R cc own ret D tys A Q k n ws pc lv (.int (bI b) :: st) := by
  cases b with
  | false => exact r_if_eq tgt hd ht (fun _ => kt rfl) (fun z => absurd rfl z)
  | true => exact r_if_eq tgt hd ht (fun z => absurd z (by decide +kernel)) (fun _ => kf rfl)
theorem r_bif_ne {b : Bool} {off : Int} (tgt : Nat) (hd : decode cc pc = .ok (.ifCond .ne off, 3)) (ht : (pc : Int) + off = (tgt : Int)) (kt : b = true → G l X R cc own ret D tys A Q k n ws tgt lv st) (kf : b = false → G l X R cc own ret D tys A Q k n ws (pc + 3) lv st) : G l X R cc own ret D tys A Q k n ws pc lv (.int (bI b) :: st) := by
  cases b with
  | false => exact r_if_ne tgt hd ht (fun z => absurd rfl z) (fun _ => kf rfl)
  | true => exact r_if_ne tgt hd ht (fun _ => kt rfl) (fun z => absurd z (by decide +kernel))
end GB
/-- 0 ≤ x ≤ m -/
def wi (x m : Int32) : Bool := decide (0 ≤ x ∧ x ≤ m)
theorem wi_t {x m : Int32} (h0 : ¬ x < 0) (h1 : ¬ m < x) : wi x m = true := decide_eq_true ⟨Int32.not_lt.mp h0, Int32.not_lt.mp h1⟩
theorem wi_f0 {x m : Int32} (h0 : x < 0) : wi x m = false := decide_eq_false (fun h => Int32.not_lt.mpr h.1 h0)
theorem wi_f1 {x m : Int32} (h1 : m < x) : wi x m = false := decide_eq_false (fun h => Int32.not_lt.mpr h.2 h1)
theorem nI_ex {x : Int32} (h : 0 ≤ x) : ∃ a : Nat, a < 2 ^ 31 ∧ x = nI a := by
  refine ⟨x.toInt.toNat, ?_, ?_⟩
  · have := Int32.toInt_lt x
    have h2 := Int32.le_iff_toInt_le.mp h
    rw [show (0 : Int32).toInt = 0 by decide +kernel] at h2
    omega
  · have h2 := Int32.le_iff_toInt_le.mp h
    rw [show (0 : Int32).toInt = 0 by decide +kernel] at h2
    have h3 := Int32.toInt_lt x
    apply Int32.toInt_inj.mp
    rw [nI_toInt (by omega)]
    omega
theorem wi_ex {x : Int32} {m : Nat} (hm : m < 2 ^ 31) (h : wi x (nI m) = true) : ∃ a : Nat, a ≤ m ∧ x = nI a := by
  obtain ⟨h0, h1⟩ := of_decide_eq_true h
  obtain ⟨a, ha, rfl⟩ := nI_ex h0
  exact ⟨a, (nI_le_iff ha hm).mp h1, rfl⟩
theorem wi_n {a b : Nat} (ha : a < 2 ^ 31) (hb : b < 2 ^ 31) : wi (nI a) (nI b) = decide (a ≤ b) := by
  unfold wi
  congr 1
  exact propext ⟨fun h => (nI_le_iff ha hb).mp h.2, fun h => ⟨by rw [← nI_0]; exact (nI_le_iff (by decide) ha).mpr (Nat.zero_le _), (nI_le_iff ha hb).mpr h⟩⟩
theorem nI_nn {a : Nat} (h : a < 2 ^ 31) : 0 ≤ nI a := nI_pos' h
theorem nI_ne_m1 {a : Nat} (h : a < 2 ^ 31) : ¬ nI a = -1 := fun e => by
  have := congrArg Int32.toInt e
  rw [nI_toInt h, show (-1 : Int32).toInt = -1 by decide +kernel] at this
  omega
theorem upd_s (f : Nat → Int32) (k : Nat) (x : Int32) : upd f k x k = x := by simp [upd]
theorem upd_n (f : Nat → Int32) {k j : Nat} (x : Int32) (h : ¬ j = k) : upd f k x j = f j := by simp [upd, h]
end
section
theorem mm_i : Cond.initialized "java/lang/Math" ∈ TB := TB_of 84 (by decide +kernel) (by decide +kernel)
theorem mm_X2_62 : Cond.methodLink RX2 62 Lib.Math.min.name ∈ TB := TB_of 349 (by decide +kernel) (by decide +kernel)
theorem mm_s : Cond.static Lib.Math.min.name ∈ TB := TB_of 350 (by decide +kernel) (by decide +kernel)
theorem mm_c : Cond.code Lib.Math.min.name Lib.Math.min.code 2 (some .int) ∈ TB := TB_of 351 (by decide +kernel) (by decide +kernel)
theorem mm_X1_73 : Cond.methodLink RX1 73 Lib.Math.min.name ∈ TB := TB_of 364 (by decide +kernel) (by decide +kernel)
theorem r_mmin {l : Launch} {X : Cx} {R : Room} {cc : ByteArray} {own : String} {ret : Option FieldType} {D : va_G} {tys : List (ClassId × FieldType)} {A : Nat → Prop} {Q : State → Prop} {k n : Nat} {ws : va_W} {pc : Nat} {lv : Lv} {st : List Value} {a b ix : Nat} (ha : a < 2 ^ 31) (hb : b < 2 ^ 31) (hlk : Cond.methodLink own ix Lib.Math.min.name ∈ TB) (hf : Nat.ble 1 R.frames = true) (hlo : Nat.ble ((st.map fun v => v.category).sum + 13) R.locals = true) (hc : Nat.ble k R.cells = true) (hs : Nat.ble n R.slots = true) (hd : decode cc pc = .ok (.invokestatic ix, 3))
    (kk : G l X R cc own ret D tys A Q k n ws (pc + 3) lv (.int (nI (min a b)) :: st)) : G l X R cc own ret D tys A Q k n ws pc lv (.int (nI b) :: .int (nI a) :: st) := by
  obtain ⟨p, e, s, m, args, below, meth, c⟩ := X
  intro F H locs ls hP hD hS hl
  have hts := F.1.2.2.2.2
  refine va_mmin F.1.1 F.1.2.1 (F.1.2.2.1.trans hl.1.symm) F.1.2.2.2.1 (hts _ hlk) (hts _ mm_s) (hts _ mm_i) (hts _ mm_c) (Nat.le_of_ble_eq_true hf) (Nat.le_of_ble_eq_true hlo) (Nat.le_of_ble_eq_true hc) (Nat.le_of_ble_eq_true hs) hd ?_
  have e2 : (if nI b < nI a then nI b else nI a) = nI (min a b) := by
    by_cases h : b < a
    · rw [if_pos ((nI_lt_iff hb ha).mpr h), Nat.min_eq_right (by omega)]
    · rw [if_neg (fun z => h ((nI_lt_iff hb ha).mp z)), Nat.min_eq_left (by omega)]
  rw [e2]
  exact kk F H locs ls hP hD hS hl
end
section
theorem cat1 {av : List Value} (h : av.all (fun v => v.category == 1) = true) : ∀ v ∈ av, v.category = 1 := fun v hv => by simpa using List.all_eq_true.mp h v hv
theorem mt_in {l : Launch} {D : va_G} {tys : List (ClassId × FieldType)} {y : MethodName} {b : ByteArray} {n : Nat} {ret : Option FieldType} {rm : Room} {av : List Value} {w : va_W} {S : Type} {post : Option Value → S → Prop} {w' : S → va_W} {mc ms : Nat} (own : String) (lv : Lv)
    (hown : y.cls = own) (hy : plainName own = true) (hc : av.all (fun v => v.category == 1) = true) (hle : (lg_sl av).length ≤ n) (hlv : av.map some ++ List.replicate (n - av.length) none = lv) (hn : lv.length = n)
    (body : ∀ (X : Cx) (sz : Nat), G l X rm b own ret D tys (va_A w sz) (QX X D tys w sz S post w' mc ms) 0 0 w 0 lv []) : Mt l D tys y b n ret rm av w S post w' mc ms := by
  subst hown
  exact mt_of lv hy (cat1 hc) hle hlv hn body
/-! A ROW is one function ρ: 0 size, 1 mode, 2 spacings, 3 moves, 4 doubled, 5 halved, 6 logs, 7.. the log by threes, 31.. keys, 95.. values. -/
def kA (ρ : Nat → Int32) : Nat → Int32 := fun j => if j < 64 then ρ (31 + j) else 0
def vA (ρ : Nat → Int32) : Nat → Int32 := fun j => if j < 64 then ρ (95 + j) else 0
def gA (w : Nat) (ρ : Nat → Int32) : Nat → Int32 := fun j => if j < 8 then ρ (7 + 3 * j + w) else 0
theorem kA_lt {ρ : Nat → Int32} {j : Nat} (h : j < 64) : kA ρ j = ρ (31 + j) := if_pos h
theorem vA_lt {ρ : Nat → Int32} {j : Nat} (h : j < 64) : vA ρ j = ρ (95 + j) := if_pos h
theorem gA_lt {w : Nat} {ρ : Nat → Int32} {j : Nat} (h : j < 8) : gA w ρ j = ρ (7 + 3 * j + w) := if_pos h
theorem kA_upd {ρ : Nat → Int32} {c : Nat} {x : Int32} (h : c < 64) : upd (kA ρ) c x = kA (upd ρ (31 + c) x) := by
  funext j
  by_cases e : j = c
  · subst e; simp [upd, kA, h]
  · have e2 : ¬ 31 + j = 31 + c := by omega
    simp [upd, kA, e]
theorem kA_oth {ρ : Nat → Int32} {i : Nat} {x : Int32} (h : i < 31 ∨ 95 ≤ i) : kA (upd ρ i x) = kA ρ := by
  funext j
  unfold kA upd
  by_cases hj : j < 64
  · rw [if_pos hj, if_pos hj, if_neg (by omega)]
  · rw [if_neg hj, if_neg hj]
theorem vA_upd {ρ : Nat → Int32} {c : Nat} {x : Int32} (h : c < 64) : upd (vA ρ) c x = vA (upd ρ (95 + c) x) := by
  funext j
  by_cases e : j = c
  · subst e; simp [upd, vA, h]
  · have e2 : ¬ 95 + j = 95 + c := by omega
    simp [upd, vA, e]
theorem vA_oth {ρ : Nat → Int32} {i : Nat} {x : Int32} (h : i < 95 ∨ 159 ≤ i) : vA (upd ρ i x) = vA ρ := by
  funext j
  unfold vA upd
  by_cases hj : j < 64
  · rw [if_pos hj, if_pos hj, if_neg (by omega)]
  · rw [if_neg hj, if_neg hj]
theorem gA_oth {w : Nat} {ρ : Nat → Int32} {i : Nat} {x : Int32} (hw : w < 3) (h : i < 7 ∨ 31 ≤ i) : gA w (upd ρ i x) = gA w ρ := by
  funext j
  unfold gA upd
  by_cases hj : j < 8
  · rw [if_pos hj, if_pos hj, if_neg (by omega)]
  · rw [if_neg hj, if_neg hj]
abbrev rowW (cA : ClassId) (q : Nat → Nat) (ρ : Nat → Int32) : va_W := [(q 0, .inr (1, [.int (ρ 0), .int (ρ 1), .int (ρ 2), .int (ρ 3), .int (ρ 4), .int (ρ 5), .int (ρ 6), .ref (q 1), .ref (q 2), .ref (q 3), .ref (q 4), .ref (q 5)])), (q 1, .inl (cA, 64, .inl (kA ρ))), (q 2, .inl (cA, 64, .inl (vA ρ))), (q 3, .inl (cA, 8, .inl (gA 0 ρ))), (q 4, .inl (cA, 8, .inl (gA 1 ρ))), (q 5, .inl (cA, 8, .inl (gA 2 ρ)))]
theorem row_setK {cA : ClassId} {q : Nat → Nat} {ρ : Nat → Int32} {c : Nat} {x : Int32} (h : c < 64) : ([(q 0, .inr (1, [.int (ρ 0), .int (ρ 1), .int (ρ 2), .int (ρ 3), .int (ρ 4), .int (ρ 5), .int (ρ 6), .ref (q 1), .ref (q 2), .ref (q 3), .ref (q 4), .ref (q 5)])), (q 1, .inl (cA, 64, .inl (upd (kA ρ) c x))), (q 2, .inl (cA, 64, .inl (vA ρ))), (q 3, .inl (cA, 8, .inl (gA 0 ρ))), (q 4, .inl (cA, 8, .inl (gA 1 ρ))), (q 5, .inl (cA, 8, .inl (gA 2 ρ)))] : va_W) = rowW cA q (upd ρ (31 + c) x) := by
  unfold rowW
  rw [kA_upd h, vA_oth (by omega), gA_oth (by omega) (by omega), gA_oth (by omega) (by omega), gA_oth (by omega) (by omega)]
  simp only [upd_n ρ x (show ¬ 0 = 31 + c by omega), upd_n ρ x (show ¬ 1 = 31 + c by omega), upd_n ρ x (show ¬ 2 = 31 + c by omega), upd_n ρ x (show ¬ 3 = 31 + c by omega), upd_n ρ x (show ¬ 4 = 31 + c by omega), upd_n ρ x (show ¬ 5 = 31 + c by omega), upd_n ρ x (show ¬ 6 = 31 + c by omega)]
theorem row_setV {cA : ClassId} {q : Nat → Nat} {ρ : Nat → Int32} {c : Nat} {x : Int32} (h : c < 64) : ([(q 0, .inr (1, [.int (ρ 0), .int (ρ 1), .int (ρ 2), .int (ρ 3), .int (ρ 4), .int (ρ 5), .int (ρ 6), .ref (q 1), .ref (q 2), .ref (q 3), .ref (q 4), .ref (q 5)])), (q 1, .inl (cA, 64, .inl (kA ρ))), (q 2, .inl (cA, 64, .inl (upd (vA ρ) c x))), (q 3, .inl (cA, 8, .inl (gA 0 ρ))), (q 4, .inl (cA, 8, .inl (gA 1 ρ))), (q 5, .inl (cA, 8, .inl (gA 2 ρ)))] : va_W) = rowW cA q (upd ρ (95 + c) x) := by
  unfold rowW
  rw [vA_upd h, kA_oth (by omega), gA_oth (by omega) (by omega), gA_oth (by omega) (by omega), gA_oth (by omega) (by omega)]
  simp only [upd_n ρ x (show ¬ 0 = 95 + c by omega), upd_n ρ x (show ¬ 1 = 95 + c by omega), upd_n ρ x (show ¬ 2 = 95 + c by omega), upd_n ρ x (show ¬ 3 = 95 + c by omega), upd_n ρ x (show ¬ 4 = 95 + c by omega), upd_n ρ x (show ¬ 5 = 95 + c by omega), upd_n ρ x (show ¬ 6 = 95 + c by omega)]
/-- one of the seven numbers of a row is set -/
theorem row_setF {cA : ClassId} {q : Nat → Nat} {ρ : Nat → Int32} (i : Nat) {x : Int32} (h : i < 7) : ([(q 0, .inr (1, ([.int (ρ 0), .int (ρ 1), .int (ρ 2), .int (ρ 3), .int (ρ 4), .int (ρ 5), .int (ρ 6), .ref (q 1), .ref (q 2), .ref (q 3), .ref (q 4), .ref (q 5)] : List Value).set i (.int x))), (q 1, .inl (cA, 64, .inl (kA ρ))), (q 2, .inl (cA, 64, .inl (vA ρ))), (q 3, .inl (cA, 8, .inl (gA 0 ρ))), (q 4, .inl (cA, 8, .inl (gA 1 ρ))), (q 5, .inl (cA, 8, .inl (gA 2 ρ)))] : va_W) = rowW cA q (upd ρ i x) := by
  unfold rowW
  rw [kA_oth (by omega), vA_oth (by omega), gA_oth (by omega) (by omega), gA_oth (by omega) (by omega), gA_oth (by omega) (by omega)]
  match i, h with
  | 0, _ => rfl
  | 1, _ => rfl
  | 2, _ => rfl
  | 3, _ => rfl
  | 4, _ => rfl
  | 5, _ => rfl
  | 6, _ => rfl
  | k + 7, h => exact absurd h (by omega)
/-! what is asked of a row -/
def topN (sz : Nat) : Nat := if sz = 16 then 2 else if sz = 32 then 3 else 4
def mostN (sz n : Nat) : Nat := 4 * 2 ^ n * (100 - 25 * n / topN sz) / 100
def leastN (sz n : Nat) : Nat := 4 * 2 ^ n * (25 + 5 * n / topN sz) / 100
def cnt (ρ : Nat → Int32) (a : Nat) : Nat → Nat
  | 0 => 0
  | n + 1 => cnt ρ a n + (if ρ (31 + (a + n)) = -1 then 0 else 1)
def blw (ρ : Nat → Int32) (k : Int32) : Nat → Nat
  | 0 => 0
  | n + 1 => blw ρ k n + (if ρ (31 + n) = -1 then 0 else if ρ (31 + n) < k then 1 else 0)
def lastF (ρ : Nat → Int32) (k : Int32) : Nat → Int32
  | 0 => -1
  | n + 1 => if ρ (31 + n) = k then nI n else lastF ρ k n
def nthF (ρ : Nat → Int32) (i : Nat) : Nat → Int32
  | 0 => -1
  | n + 1 => if ¬ ρ (31 + n) = -1 ∧ cnt ρ 0 n = i then nI n else nthF ρ i n
def vsum (ρ : Nat → Int32) (a b : Int32) : Nat → Int32
  | 0 => 0
  | n + 1 => if a ≤ ρ (31 + n) ∧ ρ (31 + n) ≤ b then vsum ρ a b n + ρ (95 + n) else vsum ρ a b n
def lstF (ρ : Nat → Int32) (g : Nat) : Int32 := if ¬ ρ (31 + 4 * g) = -1 then ρ (31 + 4 * g) else if ¬ ρ (31 + (4 * g + 1)) = -1 then ρ (31 + (4 * g + 1)) else if ¬ ρ (31 + (4 * g + 2)) = -1 then ρ (31 + (4 * g + 2)) else ρ (31 + (4 * g + 3))
theorem cnt_le (ρ : Nat → Int32) (a : Nat) : ∀ n, cnt ρ a n ≤ n
  | 0 => Nat.le_refl _
  | n + 1 => by
    have := cnt_le ρ a n
    unfold cnt
    split <;> omega
theorem blw_le (ρ : Nat → Int32) (k : Int32) : ∀ n, blw ρ k n ≤ n
  | 0 => Nat.le_refl _
  | n + 1 => by
    have := blw_le ρ k n
    unfold blw
    split
    · omega
    · split <;> omega
theorem cnt_mono (ρ : Nat → Int32) (a : Nat) {n m : Nat} (h : n ≤ m) : cnt ρ a n ≤ cnt ρ a m := by
  induction m with
  | zero => rw [Nat.le_zero.mp h]; exact Nat.le_refl _
  | succ m ih =>
    rcases Nat.lt_or_ge n (m + 1) with h1 | h1
    · exact Nat.le_trans (ih (by omega)) (by show _ ≤ cnt ρ a m + _; omega)
    · rw [show n = m + 1 by omega]; exact Nat.le_refl _
theorem nthF_none {ρ : Nat → Int32} {i : Nat} : ∀ {n : Nat}, cnt ρ 0 n ≤ i → nthF ρ i n = -1
  | 0, _ => rfl
  | n + 1, h => by
    have h1 : cnt ρ 0 n ≤ cnt ρ 0 (n + 1) := cnt_mono ρ 0 (Nat.le_succ n)
    unfold nthF
    by_cases e : ρ (31 + n) = -1
    · rw [if_neg (fun z => z.1 e)]; exact nthF_none (Nat.le_trans h1 h)
    · have h2 : cnt ρ 0 (n + 1) = cnt ρ 0 n + 1 := by show cnt ρ 0 n + _ = _; rw [Nat.zero_add, if_neg e]
      rw [if_neg (fun z => by omega)]; exact nthF_none (Nat.le_trans h1 h)
theorem nthF_at {ρ : Nat → Int32} {i c : Nat} (hk : ¬ ρ (31 + c) = -1) (hi : cnt ρ 0 c = i) : ∀ {n : Nat}, c < n → nthF ρ i n = nI c
  | 0, h => absurd h (Nat.not_lt_zero _)
  | n + 1, h => by
    unfold nthF
    by_cases e : c = n
    · subst e; rw [if_pos ⟨hk, hi⟩]
    · have hc : cnt ρ 0 (c + 1) = cnt ρ 0 c + 1 := by show cnt ρ 0 c + _ = _; rw [Nat.zero_add, if_neg hk]
      have hm : cnt ρ 0 (c + 1) ≤ cnt ρ 0 n := cnt_mono ρ 0 (by omega)
      rw [if_neg (fun z => by omega)]
      exact nthF_at hk hi (by omega)
theorem lastF_none {ρ : Nat → Int32} {k : Int32} : ∀ {n : Nat}, (∀ c, c < n → ¬ ρ (31 + c) = k) → lastF ρ k n = -1
  | 0, _ => rfl
  | n + 1, h => by
    unfold lastF
    rw [if_neg (h n (Nat.lt_succ_self n))]
    exact lastF_none (fun c hc => h c (by omega))
theorem lastF_at {ρ : Nat → Int32} {k : Int32} {c : Nat} (hk : ρ (31 + c) = k) : ∀ {n : Nat}, (∀ d, d < n → ρ (31 + d) = k → d = c) → c < n → lastF ρ k n = nI c
  | 0, _, h => absurd h (Nat.not_lt_zero _)
  | n + 1, hu, h => by
    unfold lastF
    by_cases e : ρ (31 + n) = k
    · rw [if_pos e, hu n (Nat.lt_succ_self n) e]
    · rw [if_neg e]
      exact lastF_at hk (fun d hd => hu d (by omega)) (by rcases Nat.lt_or_ge c n with h1 | h1; exact h1; exact absurd hk (by rw [show c = n by omega]; exact e))
theorem top_le {sz : Nat} : 2 ≤ topN sz ∧ topN sz ≤ 4 := by unfold topN; split; omega; split <;> omega
theorem shl4 : ∀ n, n ≤ 4 → nI 4 <<< (nI n &&& 31) = nI (4 * 2 ^ n)
  | 0, _ => by decide +kernel
  | 1, _ => by decide +kernel
  | 2, _ => by decide +kernel
  | 3, _ => by decide +kernel
  | 4, _ => by decide +kernel
  | n + 5, h => absurd h (by omega)
theorem pow4 : ∀ n, n ≤ 4 → 4 * 2 ^ n ≤ 64
  | 0, _ => by decide
  | 1, _ => by decide
  | 2, _ => by decide
  | 3, _ => by decide
  | 4, _ => by decide
  | n + 5, h => absurd h (by omega)
end
section
set_option maxRecDepth 100000 in
set_option maxHeartbeats 4000000 in
theorem c_X4_within (l : Launch) (D : va_G) (cA cB : ClassId) (x m : Int32) : Mt l D (tyS cA cB) yX4_within cX4_within 2 (some .boolean) ({ frames := 0, cells := 0, slots := 0, locals := 0 } : Room) [.int (x), .int (m)] ([]) Unit (fun v _ => v = some (.int (bI (wi x m)))) (fun _ => []) 0 0 := by
  refine mt_in RX4 ([some (.int (x)), some (.int (m))]) rfl (by decide +kernel) rfl (Nat.le_of_ble_eq_true rfl) rfl rfl (fun X sz => ?_)
  refine r_iload_n 0 dX4_within_0 rfl rfl ?_
  refine r_if_lt 13 dX4_within_1 (by decide) (fun h1 => ?_) (fun h1 => ?_)
  · refine r_iconst (nI 0) dX4_within_13 (by decide +kernel) ?_
    exact r_zret () (by decide +kernel) dX4_within_14 (by first | (rw [wi_f0 h1]; rfl) | (rw [wi_f1 h2]; rfl) | (rw [wi_t h1 h2]; rfl)) (rfl)
  · refine r_iload_n 0 dX4_within_4 rfl rfl ?_
    refine r_iload_n 1 dX4_within_5 rfl rfl ?_
    refine r_icmp_gt 13 dX4_within_6 (by decide) (fun h2 => ?_) (fun h2 => ?_)
    · refine r_iconst (nI 0) dX4_within_13 (by decide +kernel) ?_
      exact r_zret () (by decide +kernel) dX4_within_14 (by first | (rw [wi_f0 h1]; rfl) | (rw [wi_f1 h2]; rfl) | (rw [wi_t h1 h2]; rfl)) (rfl)
    · refine r_iconst (nI 1) dX4_within_9 (by decide +kernel) ?_
      refine r_goto 14 dX4_within_10 (by decide) ?_
      exact r_zret () (by decide +kernel) dX4_within_14 (by first | (rw [wi_f0 h1]; rfl) | (rw [wi_f1 h2]; rfl) | (rw [wi_t h1 h2]; rfl)) (rfl)

set_option maxRecDepth 100000 in
set_option maxHeartbeats 4000000 in
theorem c_X4_cellsOf (l : Launch) (D : va_G) (cA cB : ClassId) (n : Nat) (hn : n ≤ 4) : Mt l D (tyS cA cB) yX4_cellsOf cX4_cellsOf 1 (some .int) ({ frames := 0, cells := 0, slots := 0, locals := 0 } : Room) [.int (nI n)] ([]) Unit (fun v _ => v = some (.int (nI (4 * 2 ^ n)))) (fun _ => []) 0 0 := by
  refine mt_in RX4 ([some (.int (nI n))]) rfl (by decide +kernel) rfl (Nat.le_of_ble_eq_true rfl) rfl rfl (fun X sz => ?_)
  refine r_iconst (nI 4) dX4_cellsOf_0 (by decide +kernel) ?_
  refine r_iload_n 0 dX4_cellsOf_1 rfl rfl ?_
  refine r_ishl dX4_cellsOf_2 ?_
  refine r_top (shl4 n hn) ?_
  exact r_iret () dX4_cellsOf_3 (rfl) (rfl)

set_option maxRecDepth 100000 in
set_option maxHeartbeats 4000000 in
theorem c_X1_keyIn (l : Launch) (D : va_G) (cA cB : ClassId) (q : Nat → Nat) (ρ : Nat → Int32) (c : Nat) (hc : c < 64) : Mt l D (tyS cA cB) yX1_keyIn cX1_keyIn 2 (some .int) ({ frames := 0, cells := 0, slots := 0, locals := 0 } : Room) [.ref (q 0), .int (nI c)] (rowW cA q ρ) Unit (fun v _ => v = some (.int (ρ (31 + c)))) (fun _ => rowW cA q ρ) 0 0 := by
  refine mt_in RX1 ([some (.ref (q 0)), some (.int (nI c))]) rfl (by decide +kernel) rfl (Nat.le_of_ble_eq_true rfl) rfl rfl (fun X sz => ?_)
  refine r_iload_n 1 dX1_keyIn_0 rfl rfl ?_
  refine r_if_lt 22 dX1_keyIn_1 (by decide) (fun h1 => ?_) (fun h1 => ?_)
  · exact absurd h1 (nI_pos (by omega))
  · refine r_iload_n 1 dX1_keyIn_4 rfl rfl ?_
    refine r_aload_n 0 dX1_keyIn_5 rfl rfl ?_
    refine r_get 0 fk_X1_15 dX1_keyIn_6 rfl rfl ?_
    refine r_alen 1 0 dX1_keyIn_9 rfl rfl ?_
    refine r_top (y := nI 64) rfl ?_
    refine r_ncmp_ge 22 (by omega) (by omega) dX1_keyIn_10 (by decide) (fun h2 => ?_) (fun h2 => ?_)
    · omega
    · refine r_aload_n 0 dX1_keyIn_13 rfl rfl ?_
      refine r_get 0 fk_X1_15 dX1_keyIn_14 rfl rfl ?_
      refine r_iload_n 1 dX1_keyIn_17 rfl rfl ?_
      refine r_iald 1 (c) dX1_keyIn_18 rfl rfl rfl (by omega) (Nat.le_of_ble_eq_true rfl) ?_
      refine r_top (kA_lt (by omega)) ?_
      refine r_goto 23 dX1_keyIn_19 (by decide) ?_
      exact r_iret () dX1_keyIn_23 (rfl) (rfl)

set_option maxRecDepth 100000 in
set_option maxHeartbeats 4000000 in
theorem c_X1_keyIn_m (l : Launch) (D : va_G) (cA cB : ClassId) (q : Nat → Nat) (ρ : Nat → Int32) : Mt l D (tyS cA cB) yX1_keyIn cX1_keyIn 2 (some .int) ({ frames := 0, cells := 0, slots := 0, locals := 0 } : Room) [.ref (q 0), .int (-1)] (rowW cA q ρ) Unit (fun v _ => v = some (.int (-1))) (fun _ => rowW cA q ρ) 0 0 := by
  refine mt_in RX1 ([some (.ref (q 0)), some (.int (-1))]) rfl (by decide +kernel) rfl (Nat.le_of_ble_eq_true rfl) rfl rfl (fun X sz => ?_)
  refine r_iload_n 1 dX1_keyIn_0 rfl rfl ?_
  refine r_if_lt 22 dX1_keyIn_1 (by decide) (fun h1 => ?_) (fun h1 => ?_)
  · refine r_iconst (-1) dX1_keyIn_22 (by decide +kernel) ?_
    exact r_iret () dX1_keyIn_23 (rfl) (rfl)
  · exact absurd (by decide +kernel) h1

set_option maxRecDepth 100000 in
set_option maxHeartbeats 4000000 in
theorem c_X1_valueIn (l : Launch) (D : va_G) (cA cB : ClassId) (q : Nat → Nat) (ρ : Nat → Int32) (c : Nat) (hc : c < 64) : Mt l D (tyS cA cB) yX1_valueIn cX1_valueIn 2 (some .int) ({ frames := 0, cells := 0, slots := 0, locals := 0 } : Room) [.ref (q 0), .int (nI c)] (rowW cA q ρ) Unit (fun v _ => v = some (.int (ρ (95 + c)))) (fun _ => rowW cA q ρ) 0 0 := by
  refine mt_in RX1 ([some (.ref (q 0)), some (.int (nI c))]) rfl (by decide +kernel) rfl (Nat.le_of_ble_eq_true rfl) rfl rfl (fun X sz => ?_)
  refine r_iload_n 1 dX1_valueIn_0 rfl rfl ?_
  refine r_if_lt 22 dX1_valueIn_1 (by decide) (fun h1 => ?_) (fun h1 => ?_)
  · exact absurd h1 (nI_pos (by omega))
  · refine r_iload_n 1 dX1_valueIn_4 rfl rfl ?_
    refine r_aload_n 0 dX1_valueIn_5 rfl rfl ?_
    refine r_get 0 fk_X1_19 dX1_valueIn_6 rfl rfl ?_
    refine r_alen 2 0 dX1_valueIn_9 rfl rfl ?_
    refine r_top (y := nI 64) rfl ?_
    refine r_ncmp_ge 22 (by omega) (by omega) dX1_valueIn_10 (by decide) (fun h2 => ?_) (fun h2 => ?_)
    · omega
    · refine r_aload_n 0 dX1_valueIn_13 rfl rfl ?_
      refine r_get 0 fk_X1_19 dX1_valueIn_14 rfl rfl ?_
      refine r_iload_n 1 dX1_valueIn_17 rfl rfl ?_
      refine r_iald 2 (c) dX1_valueIn_18 rfl rfl rfl (by omega) (Nat.le_of_ble_eq_true rfl) ?_
      refine r_top (vA_lt (by omega)) ?_
      refine r_goto 23 dX1_valueIn_19 (by decide) ?_
      exact r_iret () dX1_valueIn_23 (rfl) (rfl)

set_option maxRecDepth 100000 in
set_option maxHeartbeats 4000000 in
theorem c_X1_fill (l : Launch) (D : va_G) (cA cB : ClassId) (q : Nat → Nat) (ρ : Nat → Int32) (c : Nat) (hc : c < 64) (k v : Int32) : Mt l D (tyS cA cB) yX1_fill cX1_fill 4 none ({ frames := 0, cells := 0, slots := 0, locals := 0 } : Room) [.ref (q 0), .int (nI c), .int (k), .int (v)] (rowW cA q ρ) Unit (fun v _ => v = none) (fun _ => rowW cA q (upd (upd ρ (31 + c) k) (95 + c) v)) 0 0 := by
  refine mt_in RX1 ([some (.ref (q 0)), some (.int (nI c)), some (.int (k)), some (.int (v))]) rfl (by decide +kernel) rfl (Nat.le_of_ble_eq_true rfl) rfl rfl (fun X sz => ?_)
  refine r_iload_n 1 dX1_fill_0 rfl rfl ?_
  refine r_if_lt 36 dX1_fill_1 (by decide) (fun h1 => ?_) (fun h1 => ?_)
  · exact absurd h1 (nI_pos (by omega))
  · refine r_iload_n 1 dX1_fill_4 rfl rfl ?_
    refine r_aload_n 0 dX1_fill_5 rfl rfl ?_
    refine r_get 0 fk_X1_15 dX1_fill_6 rfl rfl ?_
    refine r_alen 1 0 dX1_fill_9 rfl rfl ?_
    refine r_top (y := nI 64) rfl ?_
    refine r_ncmp_ge 36 (by omega) (by omega) dX1_fill_10 (by decide) (fun h2 => ?_) (fun h2 => ?_)
    · omega
    · refine r_iload_n 1 dX1_fill_13 rfl rfl ?_
      refine r_aload_n 0 dX1_fill_14 rfl rfl ?_
      refine r_get 0 fk_X1_19 dX1_fill_15 rfl rfl ?_
      refine r_alen 2 0 dX1_fill_18 rfl rfl ?_
      refine r_top (y := nI 64) rfl ?_
      refine r_ncmp_ge 36 (by omega) (by omega) dX1_fill_19 (by decide) (fun h3 => ?_) (fun h3 => ?_)
      · omega
      · refine r_aload_n 0 dX1_fill_22 rfl rfl ?_
        refine r_get 0 fk_X1_15 dX1_fill_23 rfl rfl ?_
        refine r_iload_n 1 dX1_fill_26 rfl rfl ?_
        refine r_iload_n 2 dX1_fill_27 rfl rfl ?_
        refine r_iast 1 (c) ([(q 0, .inr (1, [.int (ρ 0), .int (ρ 1), .int (ρ 2), .int (ρ 3), .int (ρ 4), .int (ρ 5), .int (ρ 6), .ref (q 1), .ref (q 2), .ref (q 3), .ref (q 4), .ref (q 5)])), (q 1, .inl (cA, 64, .inl (upd (kA ρ) c k))), (q 2, .inl (cA, 64, .inl (vA ρ))), (q 3, .inl (cA, 8, .inl (gA 0 ρ))), (q 4, .inl (cA, 8, .inl (gA 1 ρ))), (q 5, .inl (cA, 8, .inl (gA 2 ρ)))]) dX1_fill_28 rfl rfl rfl (by omega) (Nat.le_of_ble_eq_true rfl) rfl ?_
        refine r_ws (row_setK hc) ?_
        refine r_aload_n 0 dX1_fill_29 rfl rfl ?_
        refine r_get 0 fk_X1_19 dX1_fill_30 rfl rfl ?_
        refine r_iload_n 1 dX1_fill_33 rfl rfl ?_
        refine r_iload_n 3 dX1_fill_34 rfl rfl ?_
        refine r_iast 2 (c) ([(q 0, .inr (1, [.int ((upd ρ (31 + c) k) 0), .int ((upd ρ (31 + c) k) 1), .int ((upd ρ (31 + c) k) 2), .int ((upd ρ (31 + c) k) 3), .int ((upd ρ (31 + c) k) 4), .int ((upd ρ (31 + c) k) 5), .int ((upd ρ (31 + c) k) 6), .ref (q 1), .ref (q 2), .ref (q 3), .ref (q 4), .ref (q 5)])), (q 1, .inl (cA, 64, .inl (kA (upd ρ (31 + c) k)))), (q 2, .inl (cA, 64, .inl (upd (vA (upd ρ (31 + c) k)) c v))), (q 3, .inl (cA, 8, .inl (gA 0 (upd ρ (31 + c) k)))), (q 4, .inl (cA, 8, .inl (gA 1 (upd ρ (31 + c) k)))), (q 5, .inl (cA, 8, .inl (gA 2 (upd ρ (31 + c) k))))]) dX1_fill_35 rfl rfl rfl (by omega) (Nat.le_of_ble_eq_true rfl) rfl ?_
        refine r_ws (row_setV hc) ?_
        exact r_vret () dX1_fill_36 (rfl) (rfl)

set_option maxRecDepth 100000 in
set_option maxHeartbeats 4000000 in
theorem c_X1_top (l : Launch) (D : va_G) (cA cB : ClassId) (q : Nat → Nat) (ρ : Nat → Int32) (n : Nat) (hsz : ρ 0 = nI n) (h3 : n = 16 ∨ n = 32 ∨ n = 64)  : Mt l D (tyS cA cB) yX1_top cX1_top 1 (some .int) ({ frames := 0, cells := 0, slots := 0, locals := 0 } : Room) [.ref (q 0)] (rowW cA q ρ) Unit (fun v _ => v = some (.int (nI (topN n)))) (fun _ => rowW cA q ρ) 0 0 := by
  refine mt_in RX1 ([some (.ref (q 0))]) rfl (by decide +kernel) rfl (Nat.le_of_ble_eq_true rfl) rfl rfl (fun X sz => ?_)
  have hb : n ≤ 64 := by omega
  refine r_aload_n 0 dX1_top_0 rfl rfl ?_
  refine r_get 0 fk_X1_9 dX1_top_1 rfl rfl ?_
  refine r_top (y := nI (n)) (hsz) ?_
  refine r_bipush (nI 16) dX1_top_4 (by decide +kernel) ?_
  refine r_ncmp_ne 11 (by omega) (by omega) dX1_top_6 (by decide) (fun h1 => ?_) (fun h1 => ?_)
  · refine r_aload_n 0 dX1_top_11 rfl rfl ?_
    refine r_get 0 fk_X1_9 dX1_top_12 rfl rfl ?_
    refine r_top (y := nI (n)) (hsz) ?_
    refine r_bipush (nI 64) dX1_top_15 (by decide +kernel) ?_
    refine r_ncmp_ne 24 (by omega) (by omega) dX1_top_17 (by decide) (fun h2 => ?_) (fun h2 => ?_)
    · refine r_iconst (nI 3) dX1_top_24 (by decide +kernel) ?_
      exact r_iret () dX1_top_25 (by rcases h3 with rfl | rfl | rfl <;> first | rfl | omega) (rfl)
    · refine r_iconst (nI 4) dX1_top_20 (by decide +kernel) ?_
      refine r_goto 25 dX1_top_21 (by decide) ?_
      exact r_iret () dX1_top_25 (by rcases h3 with rfl | rfl | rfl <;> first | rfl | omega) (rfl)
  · refine r_iconst (nI 2) dX1_top_9 (by decide +kernel) ?_
    exact r_iret () dX1_top_10 (by rcases h3 with rfl | rfl | rfl <;> first | rfl | omega) (rfl)

set_option maxRecDepth 100000 in
set_option maxHeartbeats 4000000 in
theorem c_X1_most (l : Launch) (D : va_G) (cA cB : ClassId) (q : Nat → Nat) (ρ : Nat → Int32) (n : Nat) (hsz : ρ 0 = nI n) (h3 : n = 16 ∨ n = 32 ∨ n = 64) (i : Nat) (hi : i ≤ 4) : Mt l D (tyS cA cB) yX1_most cX1_most 2 (some .int) ({ frames := 1, cells := 0, slots := 0, locals := 20 } : Room) [.ref (q 0), .int (nI i)] (rowW cA q ρ) Unit (fun v _ => v = some (.int (nI (mostN n i)))) (fun _ => rowW cA q ρ) 0 0 := by
  refine mt_in RX1 ([some (.ref (q 0)), some (.int (nI i))]) rfl (by decide +kernel) rfl (Nat.le_of_ble_eq_true rfl) rfl rfl (fun X sz => ?_)
  have ht := top_le (sz := n)
  have hq := Nat.div_le_self (25 * i) (topN n)
  have hq5 := Nat.div_le_self (5 * i) (topN n)
  have hp := pow4 i hi
  have hx : 4 * 2 ^ i * (100 - 25 * i / topN n) ≤ 64 * 100 := Nat.mul_le_mul hp (Nat.sub_le _ _)
  have hy : 4 * 2 ^ i * (25 + 5 * i / topN n) ≤ 64 * 45 := Nat.mul_le_mul hp (by omega)
  refine r_iload_n 1 dX1_most_0 rfl rfl ?_
  refine r_callS (As := [.int (nI i)]) (st := []) [] [0, 1, 2, 3, 4, 5] (fun _ => rowW cA q ρ) [0, 1, 2, 3, 4, 5] (c_X4_cellsOf l D cA cB (i) (by omega)) ks_X4_cellsOf ml_X1_62 dX1_most_1 rfl rfl rfl rfl rfl rfl (by decide) (fun _ => rfl) rfl rfl (Nat.le_of_ble_eq_true rfl) (fun v u h => ?_)
  subst h
  refine r_st (st' := [.int (nI (4 * 2 ^ i))]) rfl ?_
  refine r_bipush (nI 100) dX1_most_4 (by decide +kernel) ?_
  refine r_bipush (nI 25) dX1_most_6 (by decide +kernel) ?_
  refine r_iload_n 1 dX1_most_8 rfl rfl ?_
  refine r_nimul dX1_most_9 ?_
  refine r_aload_n 0 dX1_most_10 rfl rfl ?_
  refine r_callV (As := []) (st := [.int (nI (25 * i)), .int (nI 100), .int (nI (4 * 2 ^ i))]) [0, 1, 2, 3, 4, 5] [] (fun _ => rowW cA q ρ) [0, 1, 2, 3, 4, 5] (c_X1_top l D cA cB q ρ n hsz h3) kv_X1_top ml_X1_65 dX1_most_11 rfl rfl rfl rfl rfl rfl rfl rfl (by decide) (fun _ => rfl) rfl rfl (Nat.le_of_ble_eq_true rfl) (fun v u h => ?_)
  subst h
  refine r_st (st' := [.int (nI (topN n)), .int (nI (25 * i)), .int (nI 100), .int (nI (4 * 2 ^ i))]) rfl ?_
  refine r_nidiv (by omega) (by omega) (by omega) dX1_most_14 ?_
  refine r_nisub (by omega) dX1_most_15 ?_
  refine r_nimul dX1_most_16 ?_
  refine r_bipush (nI 100) dX1_most_17 (by decide +kernel) ?_
  refine r_nidiv (by omega) (by omega) (by omega) dX1_most_19 ?_
  exact r_iret () dX1_most_20 (rfl) (rfl)

set_option maxRecDepth 100000 in
set_option maxHeartbeats 4000000 in
theorem c_X1_least (l : Launch) (D : va_G) (cA cB : ClassId) (q : Nat → Nat) (ρ : Nat → Int32) (n : Nat) (hsz : ρ 0 = nI n) (h3 : n = 16 ∨ n = 32 ∨ n = 64) (i : Nat) (hi : i ≤ 4) : Mt l D (tyS cA cB) yX1_least cX1_least 2 (some .int) ({ frames := 1, cells := 0, slots := 0, locals := 20 } : Room) [.ref (q 0), .int (nI i)] (rowW cA q ρ) Unit (fun v _ => v = some (.int (nI (leastN n i)))) (fun _ => rowW cA q ρ) 0 0 := by
  refine mt_in RX1 ([some (.ref (q 0)), some (.int (nI i))]) rfl (by decide +kernel) rfl (Nat.le_of_ble_eq_true rfl) rfl rfl (fun X sz => ?_)
  have ht := top_le (sz := n)
  have hq := Nat.div_le_self (25 * i) (topN n)
  have hq5 := Nat.div_le_self (5 * i) (topN n)
  have hp := pow4 i hi
  have hx : 4 * 2 ^ i * (100 - 25 * i / topN n) ≤ 64 * 100 := Nat.mul_le_mul hp (Nat.sub_le _ _)
  have hy : 4 * 2 ^ i * (25 + 5 * i / topN n) ≤ 64 * 45 := Nat.mul_le_mul hp (by omega)
  refine r_iload_n 1 dX1_least_0 rfl rfl ?_
  refine r_callS (As := [.int (nI i)]) (st := []) [] [0, 1, 2, 3, 4, 5] (fun _ => rowW cA q ρ) [0, 1, 2, 3, 4, 5] (c_X4_cellsOf l D cA cB (i) (by omega)) ks_X4_cellsOf ml_X1_62 dX1_least_1 rfl rfl rfl rfl rfl rfl (by decide) (fun _ => rfl) rfl rfl (Nat.le_of_ble_eq_true rfl) (fun v u h => ?_)
  subst h
  refine r_st (st' := [.int (nI (4 * 2 ^ i))]) rfl ?_
  refine r_bipush (nI 25) dX1_least_4 (by decide +kernel) ?_
  refine r_iconst (nI 5) dX1_least_6 (by decide +kernel) ?_
  refine r_iload_n 1 dX1_least_7 rfl rfl ?_
  refine r_nimul dX1_least_8 ?_
  refine r_aload_n 0 dX1_least_9 rfl rfl ?_
  refine r_callV (As := []) (st := [.int (nI (5 * i)), .int (nI 25), .int (nI (4 * 2 ^ i))]) [0, 1, 2, 3, 4, 5] [] (fun _ => rowW cA q ρ) [0, 1, 2, 3, 4, 5] (c_X1_top l D cA cB q ρ n hsz h3) kv_X1_top ml_X1_65 dX1_least_10 rfl rfl rfl rfl rfl rfl rfl rfl (by decide) (fun _ => rfl) rfl rfl (Nat.le_of_ble_eq_true rfl) (fun v u h => ?_)
  subst h
  refine r_st (st' := [.int (nI (topN n)), .int (nI (5 * i)), .int (nI 25), .int (nI (4 * 2 ^ i))]) rfl ?_
  refine r_nidiv (by omega) (by omega) (by omega) dX1_least_13 ?_
  refine r_niadd dX1_least_14 ?_
  refine r_nimul dX1_least_15 ?_
  refine r_bipush (nI 100) dX1_least_16 (by decide +kernel) ?_
  refine r_nidiv (by omega) (by omega) (by omega) dX1_least_18 ?_
  exact r_iret () dX1_least_19 (rfl) (rfl)
end
section
theorem cnt_s0 {ρ : Nat → Int32} {a i : Nat} (h : ρ (31 + (a + i)) = -1) : cnt ρ a (i + 1) = cnt ρ a i := by show cnt ρ a i + _ = _; rw [if_pos h]; rfl
theorem cnt_s1 {ρ : Nat → Int32} {a i : Nat} (h : ¬ ρ (31 + (a + i)) = -1) : cnt ρ a (i + 1) = cnt ρ a i + 1 := by show cnt ρ a i + _ = _; rw [if_neg h]
theorem cnt0_s0 {ρ : Nat → Int32} {i : Nat} (h : ρ (31 + i) = -1) : cnt ρ 0 (i + 1) = cnt ρ 0 i := cnt_s0 (by rw [Nat.zero_add]; exact h)
theorem cnt0_s1 {ρ : Nat → Int32} {i : Nat} (h : ¬ ρ (31 + i) = -1) : cnt ρ 0 (i + 1) = cnt ρ 0 i + 1 := cnt_s1 (by rw [Nat.zero_add]; exact h)
theorem blw_s0 {ρ : Nat → Int32} {k : Int32} {i : Nat} (h : ρ (31 + i) = -1) : blw ρ k (i + 1) = blw ρ k i := by show blw ρ k i + _ = _; rw [if_pos h]; rfl
theorem blw_s1 {ρ : Nat → Int32} {k : Int32} {i : Nat} (h : ¬ ρ (31 + i) = -1) (h2 : ρ (31 + i) < k) : blw ρ k (i + 1) = blw ρ k i + 1 := by show blw ρ k i + _ = _; rw [if_neg h, if_pos h2]
theorem blw_s2 {ρ : Nat → Int32} {k : Int32} {i : Nat} (h : ¬ ρ (31 + i) = -1) (h2 : ¬ ρ (31 + i) < k) : blw ρ k (i + 1) = blw ρ k i := by show blw ρ k i + _ = _; rw [if_neg h, if_neg h2]; rfl
theorem vsum_s1 {ρ : Nat → Int32} {a b : Int32} {i : Nat} (h : a ≤ ρ (31 + i)) (h2 : ρ (31 + i) ≤ b) : vsum ρ a b (i + 1) = vsum ρ a b i + ρ (95 + i) := if_pos ⟨h, h2⟩
theorem vsum_s0 {ρ : Nat → Int32} {a b : Int32} {i : Nat} (h : ¬ (a ≤ ρ (31 + i) ∧ ρ (31 + i) ≤ b)) : vsum ρ a b (i + 1) = vsum ρ a b i := if_neg h
theorem lstF_at {ρ : Nat → Int32} {g : Nat} : ∀ (i : Nat), (∀ d, d < i → ρ (31 + (4 * g + d)) = -1) → i < 4 → ¬ ρ (31 + (4 * g + i)) = -1 → lstF ρ g = ρ (31 + (4 * g + i))
  | 0, _, _, h => by unfold lstF; rw [if_pos (by simpa using h)]; rfl
  | 1, hd, _, h => by unfold lstF; rw [if_neg (fun z => z (by simpa using hd 0 (by omega))), if_pos h]
  | 2, hd, _, h => by unfold lstF; rw [if_neg (fun z => z (by simpa using hd 0 (by omega))), if_neg (fun z => z (hd 1 (by omega))), if_pos h]
  | 3, hd, _, h => by unfold lstF; rw [if_neg (fun z => z (by simpa using hd 0 (by omega))), if_neg (fun z => z (hd 1 (by omega))), if_neg (fun z => z (hd 2 (by omega)))]
  | i + 4, _, h, _ => absurd h (by omega)
theorem lstF_none {ρ : Nat → Int32} {g : Nat} (hd : ∀ d, d < 4 → ρ (31 + (4 * g + d)) = -1) : lstF ρ g = -1 := by
  unfold lstF
  rw [if_neg (fun z => z (by simpa using hd 0 (by omega))), if_neg (fun z => z (hd 1 (by omega))), if_neg (fun z => z (hd 2 (by omega))), hd 3 (by omega)]
theorem wi_lt {i m : Nat} (hi : i < 2 ^ 31) (hm : m < 2 ^ 31) : wi (nI i) (nI m - nI 1) = decide (i < m) := by
  rcases Nat.eq_zero_or_pos m with rfl | h
  · rw [show nI 0 - nI 1 = -1 by decide +kernel]
    rw [show decide (i < 0) = false by simp]
    exact wi_f1 (by have := nI_nn hi; exact Int32.lt_of_lt_of_le (by decide +kernel) this)
  · rw [nI_sb (by omega), wi_n hi (by omega)]
    congr 1
    exact propext ⟨fun _ => by omega, fun _ => by omega⟩
def logF (ρ : Nat → Int32) (m i w : Nat) : Int32 := if i < m then ρ (7 + 3 * i + w) else -1
/-- the rows of the log one place on, from the end down to i -/
def shf (f : Nat → Int32) (i : Nat) : Nat → Int32 := fun j => if i < j ∧ j < 8 then f (j - 1) else f j
theorem shf_7 (f : Nat → Int32) : shf f 7 = f := by
  funext j
  unfold shf
  rw [if_neg (by omega)]
theorem shf_step {f : Nat → Int32} {i : Nat} (h0 : 0 < i) (h : i ≤ 7) : upd (shf f i) i (shf f i (i - 1)) = shf f (i - 1) := by
  funext j
  unfold upd
  by_cases e : j = i
  · subst e
    rw [if_pos rfl]
    unfold shf
    rw [if_neg (by omega), if_pos (by omega)]
  · rw [if_neg e]
    unfold shf
    by_cases e2 : i < j ∧ j < 8
    · rw [if_pos e2, if_pos (by omega)]
    · rw [if_neg e2, if_neg (by omega)]
/-- a spacing is noted: log, spacings, moves -/
def noteF (ρ : Nat → Int32) (g : Nat) (a b m : Int32) : Nat → Int32 := fun j => if j = 2 then ρ 2 + 1 else if j = 3 then ρ 3 + m else if j = 6 then nI (min (g + 1) 8) else if j = 7 then a else if j = 8 then b else if j = 9 then m else if 10 ≤ j ∧ j < 31 then ρ (j - 3) else ρ j
theorem note_k {ρ : Nat → Int32} {g : Nat} {a b m : Int32} : kA ρ = kA (noteF ρ g a b m) := by
  funext j
  unfold kA noteF
  by_cases h : j < 64
  · rw [if_pos h, if_pos h, if_neg (by omega), if_neg (by omega), if_neg (by omega), if_neg (by omega), if_neg (by omega), if_neg (by omega), if_neg (by omega)]
  · rw [if_neg h, if_neg h]
theorem note_v {ρ : Nat → Int32} {g : Nat} {a b m : Int32} : vA ρ = vA (noteF ρ g a b m) := by
  funext j
  unfold vA noteF
  by_cases h : j < 64
  · rw [if_pos h, if_pos h, if_neg (by omega), if_neg (by omega), if_neg (by omega), if_neg (by omega), if_neg (by omega), if_neg (by omega), if_neg (by omega)]
  · rw [if_neg h, if_neg h]
theorem note_g {ρ : Nat → Int32} {g : Nat} {a b m : Int32} {w : Nat} (hw : w < 3) {x : Int32} (hx : x = noteF ρ g a b m (7 + w)) : upd (shf (gA w ρ) 0) 0 x = gA w (noteF ρ g a b m) := by
  funext j
  unfold upd
  by_cases e : j = 0
  · subst e
    rw [if_pos rfl, hx, gA_lt (by omega)]
  · rw [if_neg e]
    unfold shf
    by_cases h : j < 8
    · rw [if_pos (by omega), gA_lt (by omega), gA_lt h]
      unfold noteF
      rw [if_neg (by omega), if_neg (by omega), if_neg (by omega), if_neg (by omega), if_neg (by omega), if_neg (by omega), if_pos (by omega)]
      congr 1
      omega
    · rw [if_neg (by omega)]
      unfold gA
      rw [if_neg h, if_neg h]
end
section
set_option maxRecDepth 100000 in
set_option maxHeartbeats 4000000 in
theorem lp_X1_keysIn (l : Launch) (D : va_G) (cA cB : ClassId) (q : Nat → Nat) (ρ : Nat → Int32) (a n : Nat) (hn : a + n ≤ 64) (X : Cx) (sz : Nat) : ∀ (f i c x : Nat), c = a + i → x = cnt ρ a i → i ≤ n → n < i + f → G l X ({ frames := 1, cells := 0, slots := 0, locals := 21 } : Room) cX1_keysIn RX1 (some .int) D (tyS cA cB) (va_A (rowW cA q ρ) sz) (QX X D (tyS cA cB) (rowW cA q ρ) sz Unit (fun v _ => v = some (.int (nI (cnt ρ a n)))) (fun _ => rowW cA q ρ) 0 0) 0 0 (rowW cA q ρ) 5 ([some (.ref (q 0)), some (.int (nI a)), some (.int (nI n)), some (.int (nI x)), some (.int (nI c))]) [] := by
  intro f
  induction f with
  | zero => intro i c x hc hx h1 h2; omega
  | succ f ih =>
    intro i c x hc hx hi hf
    have hy := cnt_le ρ a i
    refine r_iload dX1_keysIn_5 rfl ?_
    refine r_iload_n 1 dX1_keysIn_7 rfl rfl ?_
    refine r_iload_n 2 dX1_keysIn_8 rfl rfl ?_
    refine r_niadd dX1_keysIn_9 ?_
    refine r_ncmp_ge 32 (by omega) (by omega) dX1_keysIn_10 (by decide) (fun h1 => ?_) (fun h1 => ?_)
    · refine r_iload_n 3 dX1_keysIn_32 rfl rfl ?_
      exact r_iret () dX1_keysIn_33 (by rw [hx, show i = n by omega]) (rfl)
    · refine r_aload_n 0 dX1_keysIn_13 rfl rfl ?_
      refine r_iload dX1_keysIn_14 rfl ?_
      refine r_callV (As := [.int (nI c)]) (st := []) [0, 1, 2, 3, 4, 5] [] (fun _ => rowW cA q ρ) [0, 1, 2, 3, 4, 5] (c_X1_keyIn l D cA cB q ρ (c) (by omega)) kv_X1_keyIn ml_X1_49 dX1_keysIn_16 rfl rfl rfl rfl rfl rfl rfl rfl (by decide) (fun _ => rfl) rfl rfl (Nat.le_of_ble_eq_true rfl) (fun v u h => ?_)
      subst h
      refine r_st (st' := [.int (ρ (31 + c))]) rfl ?_
      refine r_iconst (-1) dX1_keysIn_19 (by decide +kernel) ?_
      refine r_icmp_eq 26 dX1_keysIn_20 (by decide) (fun h2 => ?_) (fun h2 => ?_)
      · refine r_iinc (v := nI (c + 1)) ([some (.ref (q 0)), some (.int (nI a)), some (.int (nI n)), some (.int (nI x)), some (.int (nI (c + 1)))]) dX1_keysIn_26 rfl (nI_1 _) (Nat.le_of_ble_eq_true rfl) rfl rfl ?_
        refine r_goto 5 dX1_keysIn_29 (by decide) ?_
        exact ih (i + 1) _ _ (by omega) (by rw [hx, cnt_s0 (by rw [← hc]; exact h2)]) (by omega) (by omega)
      · refine r_iinc (v := nI (x + 1)) ([some (.ref (q 0)), some (.int (nI a)), some (.int (nI n)), some (.int (nI (x + 1))), some (.int (nI c))]) dX1_keysIn_23 rfl (nI_1 _) (Nat.le_of_ble_eq_true rfl) rfl rfl ?_
        refine r_iinc (v := nI (c + 1)) ([some (.ref (q 0)), some (.int (nI a)), some (.int (nI n)), some (.int (nI (x + 1))), some (.int (nI (c + 1)))]) dX1_keysIn_26 rfl (nI_1 _) (Nat.le_of_ble_eq_true rfl) rfl rfl ?_
        refine r_goto 5 dX1_keysIn_29 (by decide) ?_
        exact ih (i + 1) _ _ (by omega) (by rw [hx, cnt_s1 (by rw [← hc]; exact h2)]) (by omega) (by omega)

set_option maxRecDepth 100000 in
set_option maxHeartbeats 4000000 in
theorem c_X1_keysIn (l : Launch) (D : va_G) (cA cB : ClassId) (q : Nat → Nat) (ρ : Nat → Int32) (a n : Nat) (hn : a + n ≤ 64) : Mt l D (tyS cA cB) yX1_keysIn cX1_keysIn 5 (some .int) ({ frames := 1, cells := 0, slots := 0, locals := 21 } : Room) [.ref (q 0), .int (nI a), .int (nI n)] (rowW cA q ρ) Unit (fun v _ => v = some (.int (nI (cnt ρ a n)))) (fun _ => rowW cA q ρ) 0 0 := by
  refine mt_in RX1 ([some (.ref (q 0)), some (.int (nI a)), some (.int (nI n)), none, none]) rfl (by decide +kernel) rfl (Nat.le_of_ble_eq_true rfl) rfl rfl (fun X sz => ?_)
  refine r_iconst (nI 0) dX1_keysIn_0 (by decide +kernel) ?_
  refine r_istore_n 3 ([some (.ref (q 0)), some (.int (nI a)), some (.int (nI n)), some (.int (nI 0)), none]) dX1_keysIn_1 rfl (Nat.le_of_ble_eq_true rfl) rfl rfl ?_
  refine r_iload_n 1 dX1_keysIn_2 rfl rfl ?_
  refine r_istore ([some (.ref (q 0)), some (.int (nI a)), some (.int (nI n)), some (.int (nI 0)), some (.int (nI a))]) dX1_keysIn_3 (Nat.le_of_ble_eq_true rfl) rfl rfl ?_
  exact lp_X1_keysIn l D cA cB q ρ a n hn X sz (n + 1) 0 a 0 rfl rfl (by omega) (by omega)

set_option maxRecDepth 100000 in
set_option maxHeartbeats 4000000 in
theorem lp_X1_cellOf (l : Launch) (D : va_G) (cA cB : ClassId) (q : Nat → Nat) (ρ : Nat → Int32) (n : Nat) (hsz : ρ 0 = nI n) (h3 : n = 16 ∨ n = 32 ∨ n = 64) (k : Int32) (hu : ∀ c d, c < n → d < n → ρ (31 + c) = k → ρ (31 + d) = k → c = d) (X : Cx) (sz : Nat) : ∀ (f c : Nat), c ≤ n → n < c + f → (∀ d, d < c → ¬ ρ (31 + d) = k) → G l X ({ frames := 1, cells := 0, slots := 0, locals := 21 } : Room) cX1_cellOf RX1 (some .int) D (tyS cA cB) (va_A (rowW cA q ρ) sz) (QX X D (tyS cA cB) (rowW cA q ρ) sz Unit (fun v _ => v = some (.int (lastF ρ k n))) (fun _ => rowW cA q ρ) 0 0) 0 0 (rowW cA q ρ) 2 ([some (.ref (q 0)), some (.int (k)), some (.int (nI c))]) [] := by
  intro f
  induction f with
  | zero => intro c h1 h2 h3; omega
  | succ f ih =>
    intro c hc hf hno
    have hb : n ≤ 64 := by omega
    refine r_iload_n 2 dX1_cellOf_2 rfl rfl ?_
    refine r_aload_n 0 dX1_cellOf_3 rfl rfl ?_
    refine r_get 0 fk_X1_9 dX1_cellOf_4 rfl rfl ?_
    refine r_top (hsz) ?_
    refine r_ncmp_ge 27 (by omega) (by omega) dX1_cellOf_7 (by decide) (fun h1 => ?_) (fun h1 => ?_)
    · refine r_iconst (-1) dX1_cellOf_27 (by decide +kernel) ?_
      exact r_iret () dX1_cellOf_28 (by rw [lastF_none (fun d hd => hno d (by omega))]) (rfl)
    · refine r_aload_n 0 dX1_cellOf_10 rfl rfl ?_
      refine r_iload_n 2 dX1_cellOf_11 rfl rfl ?_
      refine r_callV (As := [.int (nI c)]) (st := []) [0, 1, 2, 3, 4, 5] [] (fun _ => rowW cA q ρ) [0, 1, 2, 3, 4, 5] (c_X1_keyIn l D cA cB q ρ (c) (by omega)) kv_X1_keyIn ml_X1_49 dX1_cellOf_12 rfl rfl rfl rfl rfl rfl rfl rfl (by decide) (fun _ => rfl) rfl rfl (Nat.le_of_ble_eq_true rfl) (fun v u h => ?_)
      subst h
      refine r_st (st' := [.int (ρ (31 + c))]) rfl ?_
      refine r_iload_n 1 dX1_cellOf_15 rfl rfl ?_
      refine r_icmp_ne 21 dX1_cellOf_16 (by decide) (fun h2 => ?_) (fun h2 => ?_)
      · refine r_iinc (v := nI (c + 1)) ([some (.ref (q 0)), some (.int (k)), some (.int (nI (c + 1)))]) dX1_cellOf_21 rfl (nI_1 _) (Nat.le_of_ble_eq_true rfl) rfl rfl ?_
        refine r_goto 2 dX1_cellOf_24 (by decide) ?_
        exact ih (c + 1) (by omega) (by omega) (fun d hd => by rcases Nat.lt_or_ge d c with e | e; exact hno d e; rw [show d = c by omega]; exact h2)
      · refine r_iload_n 2 dX1_cellOf_19 rfl rfl ?_
        exact r_iret () dX1_cellOf_20 (by rw [lastF_at h2 (fun d hd e => hu d c hd (by omega) e h2) (by omega)]) (rfl)

set_option maxRecDepth 100000 in
set_option maxHeartbeats 4000000 in
theorem c_X1_cellOf (l : Launch) (D : va_G) (cA cB : ClassId) (q : Nat → Nat) (ρ : Nat → Int32) (n : Nat) (hsz : ρ 0 = nI n) (h3 : n = 16 ∨ n = 32 ∨ n = 64) (k : Int32) (hu : ∀ c d, c < n → d < n → ρ (31 + c) = k → ρ (31 + d) = k → c = d) : Mt l D (tyS cA cB) yX1_cellOf cX1_cellOf 3 (some .int) ({ frames := 1, cells := 0, slots := 0, locals := 21 } : Room) [.ref (q 0), .int (k)] (rowW cA q ρ) Unit (fun v _ => v = some (.int (lastF ρ k n))) (fun _ => rowW cA q ρ) 0 0 := by
  refine mt_in RX1 ([some (.ref (q 0)), some (.int (k)), none]) rfl (by decide +kernel) rfl (Nat.le_of_ble_eq_true rfl) rfl rfl (fun X sz => ?_)
  refine r_iconst (nI 0) dX1_cellOf_0 (by decide +kernel) ?_
  refine r_istore_n 2 ([some (.ref (q 0)), some (.int (k)), some (.int (nI 0))]) dX1_cellOf_1 rfl (Nat.le_of_ble_eq_true rfl) rfl rfl ?_
  exact lp_X1_cellOf l D cA cB q ρ n hsz h3 k hu X sz (n + 1) 0 (by omega) (by omega) (fun d hd => absurd hd (Nat.not_lt_zero _))

set_option maxRecDepth 100000 in
set_option maxHeartbeats 4000000 in
theorem lp_X1_cellNumber (l : Launch) (D : va_G) (cA cB : ClassId) (q : Nat → Nat) (ρ : Nat → Int32) (n : Nat) (hsz : ρ 0 = nI n) (h3 : n = 16 ∨ n = 32 ∨ n = 64) (i : Nat) (hi : i < 2 ^ 31) (X : Cx) (sz : Nat) : ∀ (f c x : Nat), x = cnt ρ 0 c → x ≤ i → c ≤ n → n < c + f → G l X ({ frames := 1, cells := 0, slots := 0, locals := 21 } : Room) cX1_cellNumber RX1 (some .int) D (tyS cA cB) (va_A (rowW cA q ρ) sz) (QX X D (tyS cA cB) (rowW cA q ρ) sz Unit (fun v _ => v = some (.int (nthF ρ i n))) (fun _ => rowW cA q ρ) 0 0) 0 0 (rowW cA q ρ) 4 ([some (.ref (q 0)), some (.int (nI i)), some (.int (nI x)), some (.int (nI c))]) [] := by
  intro f
  induction f with
  | zero => intro c x _ _ h1 h2; omega
  | succ f ih =>
    intro c x hx hxi hc hf
    have hb : n ≤ 64 := by omega
    have hy := cnt_le ρ 0 c
    refine r_iload_n 3 dX1_cellNumber_4 rfl rfl ?_
    refine r_aload_n 0 dX1_cellNumber_5 rfl rfl ?_
    refine r_get 0 fk_X1_9 dX1_cellNumber_6 rfl rfl ?_
    refine r_top (hsz) ?_
    refine r_ncmp_ge 40 (by omega) (by omega) dX1_cellNumber_9 (by decide) (fun h1 => ?_) (fun h1 => ?_)
    · refine r_iconst (-1) dX1_cellNumber_40 (by decide +kernel) ?_
      exact r_iret () dX1_cellNumber_41 (by rw [nthF_none (by rw [← show c = n by omega, ← hx]; exact hxi)]) (rfl)
    · refine r_aload_n 0 dX1_cellNumber_12 rfl rfl ?_
      refine r_iload_n 3 dX1_cellNumber_13 rfl rfl ?_
      refine r_callV (As := [.int (nI c)]) (st := []) [0, 1, 2, 3, 4, 5] [] (fun _ => rowW cA q ρ) [0, 1, 2, 3, 4, 5] (c_X1_keyIn l D cA cB q ρ (c) (by omega)) kv_X1_keyIn ml_X1_49 dX1_cellNumber_14 rfl rfl rfl rfl rfl rfl rfl rfl (by decide) (fun _ => rfl) rfl rfl (Nat.le_of_ble_eq_true rfl) (fun v u h => ?_)
      subst h
      refine r_st (st' := [.int (ρ (31 + c))]) rfl ?_
      refine r_iconst (-1) dX1_cellNumber_17 (by decide +kernel) ?_
      refine r_icmp_ne 24 dX1_cellNumber_18 (by decide) (fun h2 => ?_) (fun h2 => ?_)
      · refine r_iload_n 2 dX1_cellNumber_24 rfl rfl ?_
        refine r_iload_n 1 dX1_cellNumber_25 rfl rfl ?_
        refine r_ncmp_ne 31 (by omega) (by omega) dX1_cellNumber_26 (by decide) (fun h3 => ?_) (fun h3 => ?_)
        · refine r_iinc (v := nI (x + 1)) ([some (.ref (q 0)), some (.int (nI i)), some (.int (nI (x + 1))), some (.int (nI c))]) dX1_cellNumber_31 rfl (nI_1 _) (Nat.le_of_ble_eq_true rfl) rfl rfl ?_
          refine r_iinc (v := nI (c + 1)) ([some (.ref (q 0)), some (.int (nI i)), some (.int (nI (x + 1))), some (.int (nI (c + 1)))]) dX1_cellNumber_34 rfl (nI_1 _) (Nat.le_of_ble_eq_true rfl) rfl rfl ?_
          refine r_goto 4 dX1_cellNumber_37 (by decide) ?_
          exact ih (c + 1) _ (by rw [hx, cnt0_s1 h2]) (by omega) (by omega) (by omega)
        · refine r_iload_n 3 dX1_cellNumber_29 rfl rfl ?_
          exact r_iret () dX1_cellNumber_30 (by rw [nthF_at h2 (by rw [← hx]; exact h3) (by omega)]) (rfl)
      · refine r_goto 34 dX1_cellNumber_21 (by decide) ?_
        refine r_iinc (v := nI (c + 1)) ([some (.ref (q 0)), some (.int (nI i)), some (.int (nI x)), some (.int (nI (c + 1)))]) dX1_cellNumber_34 rfl (nI_1 _) (Nat.le_of_ble_eq_true rfl) rfl rfl ?_
        refine r_goto 4 dX1_cellNumber_37 (by decide) ?_
        exact ih (c + 1) _ (by rw [hx, cnt0_s0 h2]) (by omega) (by omega) (by omega)

set_option maxRecDepth 100000 in
set_option maxHeartbeats 4000000 in
theorem c_X1_cellNumber (l : Launch) (D : va_G) (cA cB : ClassId) (q : Nat → Nat) (ρ : Nat → Int32) (n : Nat) (hsz : ρ 0 = nI n) (h3 : n = 16 ∨ n = 32 ∨ n = 64) (i : Nat) (hi : i < 2 ^ 31) : Mt l D (tyS cA cB) yX1_cellNumber cX1_cellNumber 4 (some .int) ({ frames := 1, cells := 0, slots := 0, locals := 21 } : Room) [.ref (q 0), .int (nI i)] (rowW cA q ρ) Unit (fun v _ => v = some (.int (nthF ρ i n))) (fun _ => rowW cA q ρ) 0 0 := by
  refine mt_in RX1 ([some (.ref (q 0)), some (.int (nI i)), none, none]) rfl (by decide +kernel) rfl (Nat.le_of_ble_eq_true rfl) rfl rfl (fun X sz => ?_)
  refine r_iconst (nI 0) dX1_cellNumber_0 (by decide +kernel) ?_
  refine r_istore_n 2 ([some (.ref (q 0)), some (.int (nI i)), some (.int (nI 0)), none]) dX1_cellNumber_1 rfl (Nat.le_of_ble_eq_true rfl) rfl rfl ?_
  refine r_iconst (nI 0) dX1_cellNumber_2 (by decide +kernel) ?_
  refine r_istore_n 3 ([some (.ref (q 0)), some (.int (nI i)), some (.int (nI 0)), some (.int (nI 0))]) dX1_cellNumber_3 rfl (Nat.le_of_ble_eq_true rfl) rfl rfl ?_
  exact lp_X1_cellNumber l D cA cB q ρ n hsz h3 i hi X sz (n + 1) 0 0 rfl (by omega) (by omega) (by omega)

set_option maxRecDepth 100000 in
set_option maxHeartbeats 4000000 in
theorem lp_X1_keysBelow (l : Launch) (D : va_G) (cA cB : ClassId) (q : Nat → Nat) (ρ : Nat → Int32) (n : Nat) (hsz : ρ 0 = nI n) (h3 : n = 16 ∨ n = 32 ∨ n = 64) (k : Int32) (X : Cx) (sz : Nat) : ∀ (f c x : Nat), x = blw ρ k c → c ≤ n → n < c + f → G l X ({ frames := 1, cells := 0, slots := 0, locals := 21 } : Room) cX1_keysBelow RX1 (some .int) D (tyS cA cB) (va_A (rowW cA q ρ) sz) (QX X D (tyS cA cB) (rowW cA q ρ) sz Unit (fun v _ => v = some (.int (nI (blw ρ k n)))) (fun _ => rowW cA q ρ) 0 0) 0 0 (rowW cA q ρ) 4 ([some (.ref (q 0)), some (.int (k)), some (.int (nI x)), some (.int (nI c))]) [] := by
  intro f
  induction f with
  | zero => intro c x _ h1 h2; omega
  | succ f ih =>
    intro c x hx hc hf
    have hb : n ≤ 64 := by omega
    have hy := blw_le ρ k c
    refine r_iload_n 3 dX1_keysBelow_4 rfl rfl ?_
    refine r_aload_n 0 dX1_keysBelow_5 rfl rfl ?_
    refine r_get 0 fk_X1_9 dX1_keysBelow_6 rfl rfl ?_
    refine r_top (hsz) ?_
    refine r_ncmp_ge 39 (by omega) (by omega) dX1_keysBelow_9 (by decide) (fun h1 => ?_) (fun h1 => ?_)
    · refine r_iload_n 2 dX1_keysBelow_39 rfl rfl ?_
      exact r_iret () dX1_keysBelow_40 (by rw [hx, show c = n by omega]) (rfl)
    · refine r_aload_n 0 dX1_keysBelow_12 rfl rfl ?_
      refine r_iload_n 3 dX1_keysBelow_13 rfl rfl ?_
      refine r_callV (As := [.int (nI c)]) (st := []) [0, 1, 2, 3, 4, 5] [] (fun _ => rowW cA q ρ) [0, 1, 2, 3, 4, 5] (c_X1_keyIn l D cA cB q ρ (c) (by omega)) kv_X1_keyIn ml_X1_49 dX1_keysBelow_14 rfl rfl rfl rfl rfl rfl rfl rfl (by decide) (fun _ => rfl) rfl rfl (Nat.le_of_ble_eq_true rfl) (fun v u h => ?_)
      subst h
      refine r_st (st' := [.int (ρ (31 + c))]) rfl ?_
      refine r_iconst (-1) dX1_keysBelow_17 (by decide +kernel) ?_
      refine r_icmp_eq 33 dX1_keysBelow_18 (by decide) (fun h2 => ?_) (fun h2 => ?_)
      · refine r_iinc (v := nI (c + 1)) ([some (.ref (q 0)), some (.int (k)), some (.int (nI x)), some (.int (nI (c + 1)))]) dX1_keysBelow_33 rfl (nI_1 _) (Nat.le_of_ble_eq_true rfl) rfl rfl ?_
        refine r_goto 4 dX1_keysBelow_36 (by decide) ?_
        exact ih (c + 1) _ (by rw [hx, blw_s0 h2]) (by omega) (by omega)
      · refine r_aload_n 0 dX1_keysBelow_21 rfl rfl ?_
        refine r_iload_n 3 dX1_keysBelow_22 rfl rfl ?_
        refine r_callV (As := [.int (nI c)]) (st := []) [0, 1, 2, 3, 4, 5] [] (fun _ => rowW cA q ρ) [0, 1, 2, 3, 4, 5] (c_X1_keyIn l D cA cB q ρ (c) (by omega)) kv_X1_keyIn ml_X1_49 dX1_keysBelow_23 rfl rfl rfl rfl rfl rfl rfl rfl (by decide) (fun _ => rfl) rfl rfl (Nat.le_of_ble_eq_true rfl) (fun v u h => ?_)
        subst h
        refine r_st (st' := [.int (ρ (31 + c))]) rfl ?_
        refine r_iload_n 1 dX1_keysBelow_26 rfl rfl ?_
        refine r_icmp_ge 33 dX1_keysBelow_27 (by decide) (fun h3 => ?_) (fun h3 => ?_)
        · refine r_iinc (v := nI (c + 1)) ([some (.ref (q 0)), some (.int (k)), some (.int (nI x)), some (.int (nI (c + 1)))]) dX1_keysBelow_33 rfl (nI_1 _) (Nat.le_of_ble_eq_true rfl) rfl rfl ?_
          refine r_goto 4 dX1_keysBelow_36 (by decide) ?_
          exact ih (c + 1) _ (by rw [hx, blw_s2 h2 (Int32.not_lt.mpr h3)]) (by omega) (by omega)
        · refine r_iinc (v := nI (x + 1)) ([some (.ref (q 0)), some (.int (k)), some (.int (nI (x + 1))), some (.int (nI c))]) dX1_keysBelow_30 rfl (nI_1 _) (Nat.le_of_ble_eq_true rfl) rfl rfl ?_
          refine r_iinc (v := nI (c + 1)) ([some (.ref (q 0)), some (.int (k)), some (.int (nI (x + 1))), some (.int (nI (c + 1)))]) dX1_keysBelow_33 rfl (nI_1 _) (Nat.le_of_ble_eq_true rfl) rfl rfl ?_
          refine r_goto 4 dX1_keysBelow_36 (by decide) ?_
          exact ih (c + 1) _ (by rw [hx, blw_s1 h2 (Int32.not_le.mp h3)]) (by omega) (by omega)

set_option maxRecDepth 100000 in
set_option maxHeartbeats 4000000 in
theorem c_X1_keysBelow (l : Launch) (D : va_G) (cA cB : ClassId) (q : Nat → Nat) (ρ : Nat → Int32) (n : Nat) (hsz : ρ 0 = nI n) (h3 : n = 16 ∨ n = 32 ∨ n = 64) (k : Int32) : Mt l D (tyS cA cB) yX1_keysBelow cX1_keysBelow 4 (some .int) ({ frames := 1, cells := 0, slots := 0, locals := 21 } : Room) [.ref (q 0), .int (k)] (rowW cA q ρ) Unit (fun v _ => v = some (.int (nI (blw ρ k n)))) (fun _ => rowW cA q ρ) 0 0 := by
  refine mt_in RX1 ([some (.ref (q 0)), some (.int (k)), none, none]) rfl (by decide +kernel) rfl (Nat.le_of_ble_eq_true rfl) rfl rfl (fun X sz => ?_)
  refine r_iconst (nI 0) dX1_keysBelow_0 (by decide +kernel) ?_
  refine r_istore_n 2 ([some (.ref (q 0)), some (.int (k)), some (.int (nI 0)), none]) dX1_keysBelow_1 rfl (Nat.le_of_ble_eq_true rfl) rfl rfl ?_
  refine r_iconst (nI 0) dX1_keysBelow_2 (by decide +kernel) ?_
  refine r_istore_n 3 ([some (.ref (q 0)), some (.int (k)), some (.int (nI 0)), some (.int (nI 0))]) dX1_keysBelow_3 rfl (Nat.le_of_ble_eq_true rfl) rfl rfl ?_
  exact lp_X1_keysBelow l D cA cB q ρ n hsz h3 k X sz (n + 1) 0 0 rfl (by omega) (by omega)

set_option maxRecDepth 100000 in
set_option maxHeartbeats 4000000 in
theorem lp_X1_valuesFrom (l : Launch) (D : va_G) (cA cB : ClassId) (q : Nat → Nat) (ρ : Nat → Int32) (n : Nat) (hsz : ρ 0 = nI n) (h3 : n = 16 ∨ n = 32 ∨ n = 64) (a b : Int32) (X : Cx) (sz : Nat) : ∀ (f c : Nat) (x : Int32), x = vsum ρ a b c → c ≤ n → n < c + f → G l X ({ frames := 1, cells := 0, slots := 0, locals := 21 } : Room) cX1_valuesFrom RX1 (some .int) D (tyS cA cB) (va_A (rowW cA q ρ) sz) (QX X D (tyS cA cB) (rowW cA q ρ) sz Unit (fun v _ => v = some (.int (vsum ρ a b n))) (fun _ => rowW cA q ρ) 0 0) 0 0 (rowW cA q ρ) 5 ([some (.ref (q 0)), some (.int (a)), some (.int (b)), some (.int (x)), some (.int (nI c))]) [] := by
  intro f
  induction f with
  | zero => intro c x _ h1 h2; omega
  | succ f ih =>
    intro c x hx hc hf
    have hb : n ≤ 64 := by omega
    refine r_iload dX1_valuesFrom_5 rfl ?_
    refine r_aload_n 0 dX1_valuesFrom_7 rfl rfl ?_
    refine r_get 0 fk_X1_9 dX1_valuesFrom_8 rfl rfl ?_
    refine r_top (hsz) ?_
    refine r_ncmp_ge 49 (by omega) (by omega) dX1_valuesFrom_11 (by decide) (fun h1 => ?_) (fun h1 => ?_)
    · refine r_iload_n 3 dX1_valuesFrom_49 rfl rfl ?_
      exact r_iret () dX1_valuesFrom_50 (by rw [hx, show c = n by omega]) (rfl)
    · refine r_aload_n 0 dX1_valuesFrom_14 rfl rfl ?_
      refine r_iload dX1_valuesFrom_15 rfl ?_
      refine r_callV (As := [.int (nI c)]) (st := []) [0, 1, 2, 3, 4, 5] [] (fun _ => rowW cA q ρ) [0, 1, 2, 3, 4, 5] (c_X1_keyIn l D cA cB q ρ (c) (by omega)) kv_X1_keyIn ml_X1_49 dX1_valuesFrom_17 rfl rfl rfl rfl rfl rfl rfl rfl (by decide) (fun _ => rfl) rfl rfl (Nat.le_of_ble_eq_true rfl) (fun v u h => ?_)
      subst h
      refine r_st (st' := [.int (ρ (31 + c))]) rfl ?_
      refine r_iload_n 1 dX1_valuesFrom_20 rfl rfl ?_
      refine r_icmp_lt 43 dX1_valuesFrom_21 (by decide) (fun h2 => ?_) (fun h2 => ?_)
      · refine r_iinc (v := nI (c + 1)) ([some (.ref (q 0)), some (.int (a)), some (.int (b)), some (.int (x)), some (.int (nI (c + 1)))]) dX1_valuesFrom_43 rfl (nI_1 _) (Nat.le_of_ble_eq_true rfl) rfl rfl ?_
        refine r_goto 5 dX1_valuesFrom_46 (by decide) ?_
        exact ih (c + 1) _ (by rw [hx, vsum_s0 (fun z => Int32.not_lt.mpr z.1 h2)]) (by omega) (by omega)
      · refine r_aload_n 0 dX1_valuesFrom_24 rfl rfl ?_
        refine r_iload dX1_valuesFrom_25 rfl ?_
        refine r_callV (As := [.int (nI c)]) (st := []) [0, 1, 2, 3, 4, 5] [] (fun _ => rowW cA q ρ) [0, 1, 2, 3, 4, 5] (c_X1_keyIn l D cA cB q ρ (c) (by omega)) kv_X1_keyIn ml_X1_49 dX1_valuesFrom_27 rfl rfl rfl rfl rfl rfl rfl rfl (by decide) (fun _ => rfl) rfl rfl (Nat.le_of_ble_eq_true rfl) (fun v u h => ?_)
        subst h
        refine r_st (st' := [.int (ρ (31 + c))]) rfl ?_
        refine r_iload_n 2 dX1_valuesFrom_30 rfl rfl ?_
        refine r_icmp_gt 43 dX1_valuesFrom_31 (by decide) (fun h3 => ?_) (fun h3 => ?_)
        · refine r_iinc (v := nI (c + 1)) ([some (.ref (q 0)), some (.int (a)), some (.int (b)), some (.int (x)), some (.int (nI (c + 1)))]) dX1_valuesFrom_43 rfl (nI_1 _) (Nat.le_of_ble_eq_true rfl) rfl rfl ?_
          refine r_goto 5 dX1_valuesFrom_46 (by decide) ?_
          exact ih (c + 1) _ (by rw [hx, vsum_s0 (fun z => Int32.not_lt.mpr z.2 h3)]) (by omega) (by omega)
        · refine r_iload_n 3 dX1_valuesFrom_34 rfl rfl ?_
          refine r_aload_n 0 dX1_valuesFrom_35 rfl rfl ?_
          refine r_iload dX1_valuesFrom_36 rfl ?_
          refine r_callV (As := [.int (nI c)]) (st := [.int (x)]) [0, 1, 2, 3, 4, 5] [] (fun _ => rowW cA q ρ) [0, 1, 2, 3, 4, 5] (c_X1_valueIn l D cA cB q ρ (c) (by omega)) kv_X1_valueIn ml_X1_56 dX1_valuesFrom_38 rfl rfl rfl rfl rfl rfl rfl rfl (by decide) (fun _ => rfl) rfl rfl (Nat.le_of_ble_eq_true rfl) (fun v u h => ?_)
          subst h
          refine r_st (st' := [.int (ρ (95 + c)), .int (x)]) rfl ?_
          refine r_iadd dX1_valuesFrom_41 ?_
          refine r_istore_n 3 ([some (.ref (q 0)), some (.int (a)), some (.int (b)), some (.int (x + (ρ (95 + c)))), some (.int (nI c))]) dX1_valuesFrom_42 rfl (Nat.le_of_ble_eq_true rfl) rfl rfl ?_
          refine r_iinc (v := nI (c + 1)) ([some (.ref (q 0)), some (.int (a)), some (.int (b)), some (.int (x + (ρ (95 + c)))), some (.int (nI (c + 1)))]) dX1_valuesFrom_43 rfl (nI_1 _) (Nat.le_of_ble_eq_true rfl) rfl rfl ?_
          refine r_goto 5 dX1_valuesFrom_46 (by decide) ?_
          exact ih (c + 1) _ (by rw [hx, vsum_s1 (Int32.not_lt.mp h2) (Int32.not_lt.mp h3)]) (by omega) (by omega)

set_option maxRecDepth 100000 in
set_option maxHeartbeats 4000000 in
theorem c_X1_valuesFrom (l : Launch) (D : va_G) (cA cB : ClassId) (q : Nat → Nat) (ρ : Nat → Int32) (n : Nat) (hsz : ρ 0 = nI n) (h3 : n = 16 ∨ n = 32 ∨ n = 64) (a b : Int32) : Mt l D (tyS cA cB) yX1_valuesFrom cX1_valuesFrom 5 (some .int) ({ frames := 1, cells := 0, slots := 0, locals := 21 } : Room) [.ref (q 0), .int (a), .int (b)] (rowW cA q ρ) Unit (fun v _ => v = some (.int (vsum ρ a b n))) (fun _ => rowW cA q ρ) 0 0 := by
  refine mt_in RX1 ([some (.ref (q 0)), some (.int (a)), some (.int (b)), none, none]) rfl (by decide +kernel) rfl (Nat.le_of_ble_eq_true rfl) rfl rfl (fun X sz => ?_)
  refine r_iconst (nI 0) dX1_valuesFrom_0 (by decide +kernel) ?_
  refine r_istore_n 3 ([some (.ref (q 0)), some (.int (a)), some (.int (b)), some (.int (nI 0)), none]) dX1_valuesFrom_1 rfl (Nat.le_of_ble_eq_true rfl) rfl rfl ?_
  refine r_iconst (nI 0) dX1_valuesFrom_2 (by decide +kernel) ?_
  refine r_istore ([some (.ref (q 0)), some (.int (a)), some (.int (b)), some (.int (nI 0)), some (.int (nI 0))]) dX1_valuesFrom_3 (Nat.le_of_ble_eq_true rfl) rfl rfl ?_
  exact lp_X1_valuesFrom l D cA cB q ρ n hsz h3 a b X sz (n + 1) 0 0 rfl (by omega) (by omega)

set_option maxRecDepth 100000 in
set_option maxHeartbeats 4000000 in
theorem lp_X1_leastKeyOf (l : Launch) (D : va_G) (cA cB : ClassId) (q : Nat → Nat) (ρ : Nat → Int32) (g : Nat) (hg : g < 16) (X : Cx) (sz : Nat) : ∀ (f i c : Nat), c = 4 * g + i → i ≤ 4 → 4 < i + f → (∀ d, d < i → ρ (31 + (4 * g + d)) = -1) → G l X ({ frames := 1, cells := 0, slots := 0, locals := 21 } : Room) cX1_leastKeyOf RX1 (some .int) D (tyS cA cB) (va_A (rowW cA q ρ) sz) (QX X D (tyS cA cB) (rowW cA q ρ) sz Unit (fun v _ => v = some (.int (lstF ρ g))) (fun _ => rowW cA q ρ) 0 0) 0 0 (rowW cA q ρ) 6 ([some (.ref (q 0)), some (.int (nI g)), some (.int (nI (g * 4))), some (.int (nI c))]) [] := by
  intro f
  induction f with
  | zero => intro i c _ h1 h2 _; omega
  | succ f ih =>
    intro i c hc hi hf hno
    refine r_iload_n 3 dX1_leastKeyOf_6 rfl rfl ?_
    refine r_iload_n 2 dX1_leastKeyOf_7 rfl rfl ?_
    refine r_iconst (nI 4) dX1_leastKeyOf_8 (by decide +kernel) ?_
    refine r_niadd dX1_leastKeyOf_9 ?_
    refine r_ncmp_ge 34 (by omega) (by omega) dX1_leastKeyOf_10 (by decide) (fun h1 => ?_) (fun h1 => ?_)
    · refine r_iconst (-1) dX1_leastKeyOf_34 (by decide +kernel) ?_
      exact r_iret () dX1_leastKeyOf_35 (by rw [lstF_none (fun d hd => hno d (by omega))]) (rfl)
    · refine r_aload_n 0 dX1_leastKeyOf_13 rfl rfl ?_
      refine r_iload_n 3 dX1_leastKeyOf_14 rfl rfl ?_
      refine r_callV (As := [.int (nI c)]) (st := []) [0, 1, 2, 3, 4, 5] [] (fun _ => rowW cA q ρ) [0, 1, 2, 3, 4, 5] (c_X1_keyIn l D cA cB q ρ (c) (by omega)) kv_X1_keyIn ml_X1_49 dX1_leastKeyOf_15 rfl rfl rfl rfl rfl rfl rfl rfl (by decide) (fun _ => rfl) rfl rfl (Nat.le_of_ble_eq_true rfl) (fun v u h => ?_)
      subst h
      refine r_st (st' := [.int (ρ (31 + c))]) rfl ?_
      refine r_iconst (-1) dX1_leastKeyOf_18 (by decide +kernel) ?_
      refine r_icmp_eq 28 dX1_leastKeyOf_19 (by decide) (fun h2 => ?_) (fun h2 => ?_)
      · refine r_iinc (v := nI (c + 1)) ([some (.ref (q 0)), some (.int (nI g)), some (.int (nI (g * 4))), some (.int (nI (c + 1)))]) dX1_leastKeyOf_28 rfl (nI_1 _) (Nat.le_of_ble_eq_true rfl) rfl rfl ?_
        refine r_goto 6 dX1_leastKeyOf_31 (by decide) ?_
        exact ih (i + 1) _ (by omega) (by omega) (by omega) (fun d hd => by rcases Nat.lt_or_ge d i with e | e; exact hno d e; rw [show d = i by omega, ← hc]; exact h2)
      · refine r_aload_n 0 dX1_leastKeyOf_22 rfl rfl ?_
        refine r_iload_n 3 dX1_leastKeyOf_23 rfl rfl ?_
        refine r_callV (As := [.int (nI c)]) (st := []) [0, 1, 2, 3, 4, 5] [] (fun _ => rowW cA q ρ) [0, 1, 2, 3, 4, 5] (c_X1_keyIn l D cA cB q ρ (c) (by omega)) kv_X1_keyIn ml_X1_49 dX1_leastKeyOf_24 rfl rfl rfl rfl rfl rfl rfl rfl (by decide) (fun _ => rfl) rfl rfl (Nat.le_of_ble_eq_true rfl) (fun v u h => ?_)
        subst h
        refine r_st (st' := [.int (ρ (31 + c))]) rfl ?_
        exact r_iret () dX1_leastKeyOf_27 (by rw [lstF_at i hno (by omega) (by rw [← hc]; exact h2), hc]) (rfl)

set_option maxRecDepth 100000 in
set_option maxHeartbeats 4000000 in
theorem c_X1_leastKeyOf (l : Launch) (D : va_G) (cA cB : ClassId) (q : Nat → Nat) (ρ : Nat → Int32) (g : Nat) (hg : g < 16) : Mt l D (tyS cA cB) yX1_leastKeyOf cX1_leastKeyOf 4 (some .int) ({ frames := 1, cells := 0, slots := 0, locals := 21 } : Room) [.ref (q 0), .int (nI g)] (rowW cA q ρ) Unit (fun v _ => v = some (.int (lstF ρ g))) (fun _ => rowW cA q ρ) 0 0 := by
  refine mt_in RX1 ([some (.ref (q 0)), some (.int (nI g)), none, none]) rfl (by decide +kernel) rfl (Nat.le_of_ble_eq_true rfl) rfl rfl (fun X sz => ?_)
  refine r_iload_n 1 dX1_leastKeyOf_0 rfl rfl ?_
  refine r_iconst (nI 4) dX1_leastKeyOf_1 (by decide +kernel) ?_
  refine r_nimul dX1_leastKeyOf_2 ?_
  refine r_istore_n 2 ([some (.ref (q 0)), some (.int (nI g)), some (.int (nI (g * 4))), none]) dX1_leastKeyOf_3 rfl (Nat.le_of_ble_eq_true rfl) rfl rfl ?_
  refine r_iload_n 2 dX1_leastKeyOf_4 rfl rfl ?_
  refine r_istore_n 3 ([some (.ref (q 0)), some (.int (nI g)), some (.int (nI (g * 4))), some (.int (nI (g * 4)))]) dX1_leastKeyOf_5 rfl (Nat.le_of_ble_eq_true rfl) rfl rfl ?_
  exact lp_X1_leastKeyOf l D cA cB q ρ g hg X sz 5 0 (g * 4) (by omega) (by omega) (by omega) (fun d hd => absurd hd (Nat.not_lt_zero _))

set_option maxRecDepth 100000 in
set_option maxHeartbeats 4000000 in
theorem c_X1_logged (l : Launch) (D : va_G) (cA cB : ClassId) (q : Nat → Nat) (ρ : Nat → Int32) (m : Nat) (hm : ρ 6 = nI m) (hm8 : m ≤ 8) (i t : Nat) (hi : i < 2 ^ 31) (ht : t ≤ 2) : Mt l D (tyS cA cB) yX1_logged cX1_logged 3 (some .int) ({ frames := 1, cells := 0, slots := 0, locals := 21 } : Room) [.ref (q 0), .int (nI i), .int (nI t)] (rowW cA q ρ) Unit (fun v _ => v = some (.int (logF ρ m i t))) (fun _ => rowW cA q ρ) 0 0 := by
  refine mt_in RX1 ([some (.ref (q 0)), some (.int (nI i)), some (.int (nI t))]) rfl (by decide +kernel) rfl (Nat.le_of_ble_eq_true rfl) rfl rfl (fun X sz => ?_)
  refine r_iload_n 1 dX1_logged_0 rfl rfl ?_
  refine r_aload_n 0 dX1_logged_1 rfl rfl ?_
  refine r_get 0 fk_X1_46 dX1_logged_2 rfl rfl ?_
  refine r_top (hm) ?_
  refine r_iconst (nI 1) dX1_logged_5 (by decide +kernel) ?_
  refine r_isub dX1_logged_6 ?_
  refine r_callS (As := [.int (nI i), .int ((nI (m)) - (nI (1)))]) (st := []) [] [0, 1, 2, 3, 4, 5] (fun _ => rowW cA q ρ) [0, 1, 2, 3, 4, 5] (c_X4_within l D cA cB (nI (i)) ((nI (m)) - (nI (1)))) ks_X4_within ml_X1_69 dX1_logged_7 rfl rfl rfl rfl rfl rfl (by decide) (fun _ => rfl) rfl rfl (Nat.le_of_ble_eq_true rfl) (fun v u h => ?_)
  subst h
  refine r_st (st' := [.int (bI (wi (nI (i)) ((nI (m)) - (nI (1)))))]) rfl ?_
  refine r_bif_eq 22 dX1_logged_10 (by decide) (fun h1 => ?_) (fun h1 => ?_)
  · refine r_iconst (-1) dX1_logged_22 (by decide +kernel) ?_
    exact r_iret () dX1_logged_23 (by unfold logF; rw [if_neg (fun z => by rw [wi_lt hi (by omega)] at h1; simp [z] at h1)]) (rfl)
  · refine r_iload_n 1 dX1_logged_13 rfl rfl ?_
    refine r_bipush (nI 7) dX1_logged_14 (by decide +kernel) ?_
    refine r_callS (As := [.int (nI i), .int (nI 7)]) (st := []) [] [0, 1, 2, 3, 4, 5] (fun _ => rowW cA q ρ) [0, 1, 2, 3, 4, 5] (c_X4_within l D cA cB (nI (i)) (nI (7))) ks_X4_within ml_X1_69 dX1_logged_16 rfl rfl rfl rfl rfl rfl (by decide) (fun _ => rfl) rfl rfl (Nat.le_of_ble_eq_true rfl) (fun v u h => ?_)
    subst h
    refine r_st (st' := [.int (bI (wi (nI (i)) (nI (7))))]) rfl ?_
    refine r_bif_ne 24 dX1_logged_19 (by decide) (fun h2 => ?_) (fun h2 => ?_)
    · refine r_iload_n 2 dX1_logged_24 rfl rfl ?_
      refine r_if_ne 35 dX1_logged_25 (by decide) (fun h3 => ?_) (fun h3 => ?_)
      · have hi8 : i < 8 := by have := h2; rw [wi_n hi (by omega)] at this; have := of_decide_eq_true this; omega
        have ht0 : ¬ t = 0 := fun z => h3 (by rw [z]; rfl)
        refine r_iload_n 2 dX1_logged_35 rfl rfl ?_
        refine r_iconst (nI 1) dX1_logged_36 (by decide +kernel) ?_
        refine r_ncmp_ne 49 (by omega) (by omega) dX1_logged_37 (by decide) (fun h4 => ?_) (fun h4 => ?_)
        · refine r_aload_n 0 dX1_logged_49 rfl rfl ?_
          refine r_get 0 fk_X1_28 dX1_logged_50 rfl rfl ?_
          refine r_iload_n 1 dX1_logged_53 rfl rfl ?_
          refine r_iald 5 (i) dX1_logged_54 rfl rfl rfl (by omega) (Nat.le_of_ble_eq_true rfl) ?_
          refine r_top (gA_lt (by omega)) ?_
          exact r_iret () dX1_logged_55 (by rw [wi_lt hi (by omega)] at h1; unfold logF; rw [if_pos (of_decide_eq_true h1), show t = 2 from by omega]) (rfl)
        · refine r_aload_n 0 dX1_logged_40 rfl rfl ?_
          refine r_get 0 fk_X1_25 dX1_logged_41 rfl rfl ?_
          refine r_iload_n 1 dX1_logged_44 rfl rfl ?_
          refine r_iald 4 (i) dX1_logged_45 rfl rfl rfl (by omega) (Nat.le_of_ble_eq_true rfl) ?_
          refine r_top (gA_lt (by omega)) ?_
          refine r_goto 55 dX1_logged_46 (by decide) ?_
          exact r_iret () dX1_logged_55 (by rw [wi_lt hi (by omega)] at h1; unfold logF; rw [if_pos (of_decide_eq_true h1), show t = 1 from h4]) (rfl)
      · have hi8 : i < 8 := by have := h2; rw [wi_n hi (by omega)] at this; have := of_decide_eq_true this; omega
        refine r_aload_n 0 dX1_logged_28 rfl rfl ?_
        refine r_get 0 fk_X1_22 dX1_logged_29 rfl rfl ?_
        refine r_iload_n 1 dX1_logged_32 rfl rfl ?_
        refine r_iald 3 (i) dX1_logged_33 rfl rfl rfl (by omega) (Nat.le_of_ble_eq_true rfl) ?_
        refine r_top (gA_lt (by omega)) ?_
        exact r_iret () dX1_logged_34 (by rw [wi_lt hi (by omega)] at h1; unfold logF; rw [if_pos (of_decide_eq_true h1), show t = 0 from (nI_inj (by omega) (by decide)).mp h3]) (rfl)
    · refine r_iconst (-1) dX1_logged_22 (by decide +kernel) ?_
      exact r_iret () dX1_logged_23 (by rw [wi_lt hi (by omega)] at h1; rw [wi_n hi (by omega)] at h2; simp at h1 h2; omega) (rfl)
end
section
/-! keys and values by their cells -/
def kv (ρ : Nat → Int32) : Nat → Int32 := fun c => ρ (31 + c)
def vv (ρ : Nat → Int32) : Nat → Int32 := fun c => ρ (95 + c)
/-- a row of scratch behind the taking of n cells from a: the kept ones' values, one behind the other -/
def tkG (ρ val : Nat → Int32) (a : Nat) (f : Nat → Int32) : Nat → Nat → Int32
  | 0 => f
  | n + 1 => if ρ (31 + (a + n)) = -1 then tkG ρ val a f n else upd (tkG ρ val a f n) (cnt ρ a n) (val (a + n))
/-- the row behind it: those cells are empty -/
def clr (ρ : Nat → Int32) (a : Nat) : Nat → Nat → Int32
  | 0 => ρ
  | n + 1 => if ρ (31 + (a + n)) = -1 then clr ρ a n else upd (upd (clr ρ a n) (31 + (a + n)) (-1)) (95 + (a + n)) 0
theorem tkG_s0 {ρ val f : Nat → Int32} {a n : Nat} (h : ρ (31 + (a + n)) = -1) : tkG ρ val a f (n + 1) = tkG ρ val a f n := if_pos h
theorem tkG_s1 {ρ val f : Nat → Int32} {a n : Nat} (h : ¬ ρ (31 + (a + n)) = -1) : tkG ρ val a f (n + 1) = upd (tkG ρ val a f n) (cnt ρ a n) (val (a + n)) := if_neg h
theorem clr_s0 {ρ : Nat → Int32} {a n : Nat} (h : ρ (31 + (a + n)) = -1) : clr ρ a (n + 1) = clr ρ a n := if_pos h
theorem clr_s1 {ρ : Nat → Int32} {a n : Nat} (h : ¬ ρ (31 + (a + n)) = -1) : clr ρ a (n + 1) = upd (upd (clr ρ a n) (31 + (a + n)) (-1)) (95 + (a + n)) 0 := if_neg h
/-- outside its cells nothing is emptied -/
theorem clr_out {ρ : Nat → Int32} {a : Nat} {j : Nat} : ∀ {n : Nat}, (∀ c, a ≤ c → c < a + n → ¬ j = 31 + c ∧ ¬ j = 95 + c) → clr ρ a n j = ρ j
  | 0, _ => rfl
  | n + 1, h => by
    have h1 := clr_out (ρ := ρ) (n := n) (fun c h1 h2 => h c h1 (by omega))
    by_cases e : ρ (31 + (a + n)) = -1
    · rw [clr_s0 e]; exact h1
    · obtain ⟨h2, h3⟩ := h (a + n) (by omega) (by omega)
      rw [clr_s1 e, upd_n _ _ h3, upd_n _ _ h2]; exact h1
theorem clr_k {ρ : Nat → Int32} {a n c : Nat} (h : a + n ≤ c) (hc : c < 64) : clr ρ a n (31 + c) = ρ (31 + c) := clr_out (fun d h1 h2 => by omega)
theorem clr_v {ρ : Nat → Int32} {a n c : Nat} (h : a + n ≤ c) : clr ρ a n (95 + c) = ρ (95 + c) := clr_out (fun d h1 h2 => by omega)
/-- where one that comes is put among h: behind the last that isn't greater -/
def insP (f : Nat → Int32) (k : Int32) : Nat → Nat
  | 0 => 0
  | h + 1 => if k < f h then insP f k h else h + 1
theorem insP_le (f : Nat → Int32) (k : Int32) : ∀ h, insP f k h ≤ h
  | 0 => Nat.le_refl _
  | h + 1 => by unfold insP; split; exact Nat.le_succ_of_le (insP_le f k h); exact Nat.le_refl _
def shi (f : Nat → Int32) (p h : Nat) : Nat → Int32 := fun j => if p < j ∧ j ≤ h then f (j - 1) else f j
def insA (f : Nat → Int32) (p h : Nat) (x : Int32) : Nat → Int32 := fun j => if j = p then x else if p < j ∧ j ≤ h then f (j - 1) else f j
theorem shi_h (f : Nat → Int32) (h : Nat) : shi f h h = f := by
  funext j
  unfold shi
  rw [if_neg (by omega)]
theorem shi_lo {f : Nat → Int32} {p h : Nat} (hp : 0 < p) : shi f p h (p - 1) = f (p - 1) := by
  unfold shi
  rw [if_neg (by omega)]
theorem shi_step {f : Nat → Int32} {p h : Nat} (hp : 0 < p) (hh : p ≤ h) : upd (shi f p h) p (f (p - 1)) = shi f (p - 1) h := by
  funext j
  unfold upd
  by_cases e : j = p
  · subst e
    rw [if_pos rfl]
    unfold shi
    rw [if_pos (by omega)]
  · rw [if_neg e]
    unfold shi
    by_cases e2 : p < j ∧ j ≤ h
    · rw [if_pos e2, if_pos (by omega)]
    · rw [if_neg e2, if_neg (by omega)]
theorem shi_ins (f : Nat → Int32) (p h : Nat) (x : Int32) : upd (shi f p h) p x = insA f p h x := rfl
/-- where the j-th of h is laid among n cells from a -/
def posF (a n h : Nat) (le : Bool) (w : Int32) (j : Nat) : Nat := a + j * (n - (if le then (n - h) / 2 else 0)) / h + (if le && decide (w < nI j) then (n - h) / 2 else 0)
def layF (ρ K V : Nat → Int32) (pos : Nat → Nat) : Nat → Nat → Int32
  | 0 => ρ
  | j + 1 => upd (upd (layF ρ K V pos j) (31 + pos j) (K j)) (95 + pos j) (V j)
def mvF (C : Nat → Int32) (pos : Nat → Nat) : Nat → Nat
  | 0 => 0
  | j + 1 => mvF C pos j + (if nI (pos j) = C j then 0 else 1)
theorem mvF_le (C : Nat → Int32) (pos : Nat → Nat) : ∀ j, mvF C pos j ≤ j
  | 0 => Nat.le_refl _
  | j + 1 => by have := mvF_le C pos j; unfold mvF; split <;> omega
theorem mvF_s0 {C : Nat → Int32} {pos : Nat → Nat} {j : Nat} (h : nI (pos j) = C j) : mvF C pos (j + 1) = mvF C pos j := by show _ + _ = _; rw [if_pos h]; rfl
theorem mvF_s1 {C : Nat → Int32} {pos : Nat → Nat} {j : Nat} (h : ¬ nI (pos j) = C j) : mvF C pos (j + 1) = mvF C pos j + 1 := by show _ + _ = _; rw [if_neg h]
def lnB (ρ : Nat → Int32) (w : Int32) : Bool := decide (ρ 1 = 1 ∧ ¬ w = -1)
def layAll (ρ K V C : Nat → Int32) (h : Nat) (w : Int32) (a n g : Nat) : Nat → Int32 := noteF (layF ρ K V (posF a n h (lnB ρ w) w) h) g (nI a) (nI n) (nI (mvF C (posF a n h (lnB ρ w) w) h))
def mvAll (ρ C : Nat → Int32) (h : Nat) (w : Int32) (a n : Nat) : Nat := mvF C (posF a n h (lnB ρ w) w) h
theorem div_lt_of {j h x : Nat} (hj : j < h) (hx : 0 < x) : j * x / h < x := by
  rw [Nat.div_lt_iff_lt_mul (by omega)]
  rw [Nat.mul_comm x h]
  exact Nat.mul_lt_mul_of_pos_right hj hx
theorem pos_lt {a n h : Nat} {le : Bool} {w : Int32} {j : Nat} (hj : j < h) (hh : h ≤ n) : posF a n h le w j < a + n := by
  unfold posF
  cases le with
  | false =>
    simp only [Bool.false_and, Nat.sub_zero]
    have := div_lt_of hj (show 0 < n by omega)
    simp
    omega
  | true =>
    have := div_lt_of hj (show 0 < n - (n - h) / 2 by omega)
    simp only [Bool.true_and, if_pos]
    split <;> omega
theorem layF_low {ρ K V : Nat → Int32} {pos : Nat → Nat} {i : Nat} (hi : i < 31) : ∀ j, layF ρ K V pos j i = ρ i
  | 0 => rfl
  | j + 1 => by
    show upd (upd _ _ _) _ _ i = _
    rw [upd_n _ _ (by omega), upd_n _ _ (by omega)]
    exact layF_low hi j
theorem clr_low {ρ : Nat → Int32} {a n i : Nat} (hi : i < 31) : clr ρ a n i = ρ i := clr_out (fun d h1 h2 => by omega)
/-- where a window of level i lies, for a segment -/
def wst (sg i : Nat) : Nat := sg / 2 ^ i * (4 * 2 ^ i)
theorem shr_ok : ∀ (sg : Fin 16) (i : Fin 5), nI sg.val >>> (nI i.val &&& 31) = nI (sg.val / 2 ^ i.val) := by decide +kernel
theorem wst_16 : ∀ (sg : Fin 4) (i : Fin 3), wst sg.val i.val + 4 * 2 ^ i.val ≤ 16 := by decide +kernel
theorem wst_32 : ∀ (sg : Fin 8) (i : Fin 4), wst sg.val i.val + 4 * 2 ^ i.val ≤ 32 := by decide +kernel
theorem wst_64 : ∀ (sg : Fin 16) (i : Fin 5), wst sg.val i.val + 4 * 2 ^ i.val ≤ 64 := by decide +kernel
theorem wst_le {n sg i : Nat} (h3 : n = 16 ∨ n = 32 ∨ n = 64) (hs : sg * 4 < n) (hi : i ≤ topN n) : wst sg i + 4 * 2 ^ i ≤ n := by
  rcases h3 with rfl | rfl | rfl
  · have : i ≤ 2 := hi
    exact wst_16 ⟨sg, by omega⟩ ⟨i, by omega⟩
  · have : i ≤ 3 := hi
    exact wst_32 ⟨sg, by omega⟩ ⟨i, by omega⟩
  · have : i ≤ 4 := hi
    exact wst_64 ⟨sg, by omega⟩ ⟨i, by omega⟩
theorem most_le {n i : Nat} : mostN n i ≤ 4 * 2 ^ i := by
  unfold mostN
  apply Nat.div_le_of_le_mul
  rw [Nat.mul_comm 100]
  exact Nat.mul_le_mul_left _ (Nat.sub_le _ _)
/-- the least level from i on whose window would not be too dense -/
def lvF (ρ : Nat → Int32) (n sg : Nat) : Nat → Nat → Option Nat
  | 0, _ => none
  | f + 1, i => if cnt ρ (wst sg i) (4 * 2 ^ i) + 1 ≤ mostN n i then some i else lvF ρ n sg f (i + 1)
def oI (o : Option Nat) : Int32 := match o with
  | none => -1
  | some i => nI i
/-- the segment of the last cell whose key is below k -/
def segF (ρ : Nat → Int32) (k : Int32) : Nat → Nat
  | 0 => 0
  | n + 1 => if ¬ ρ (31 + n) = -1 ∧ ρ (31 + n) < k then n / 4 else segF ρ k n
/-- keys stand in order -/
def Srt (ρ : Nat → Int32) (n : Nat) : Prop := ∀ c d, c < d → d < n → ¬ ρ (31 + c) = -1 → ¬ ρ (31 + d) = -1 → ρ (31 + c) < ρ (31 + d)
theorem segF_le (ρ : Nat → Int32) (k : Int32) : ∀ n, 0 < n → segF ρ k n * 4 < n
  | 0, h => absurd h (Nat.lt_irrefl 0)
  | n + 1, _ => by
    unfold segF
    split
    · omega
    · rcases Nat.eq_zero_or_pos n with h | h
      · rw [h]; exact Nat.lt_succ_of_le (Nat.le_refl 0)
      · have := segF_le ρ k n h; omega
theorem blw_c {ρ : Nat → Int32} {k : Int32} : ∀ {n : Nat}, (∀ c, c < n → ¬ ρ (31 + c) = -1 → ρ (31 + c) < k) → blw ρ k n = cnt ρ 0 n
  | 0, _ => rfl
  | n + 1, h => by
    have ih := blw_c (ρ := ρ) (k := k) (n := n) (fun c hc => h c (by omega))
    by_cases e : ρ (31 + n) = -1
    · rw [blw_s0 e, cnt0_s0 e, ih]
    · rw [blw_s1 e (h n (by omega) e), cnt0_s1 e, ih]
theorem blw_n {ρ : Nat → Int32} {k : Int32} {m : Nat} : ∀ {n : Nat}, m ≤ n → (∀ c, m ≤ c → c < n → ¬ ρ (31 + c) = -1 → ¬ ρ (31 + c) < k) → blw ρ k n = blw ρ k m
  | 0, h, _ => by rw [Nat.le_zero.mp h]
  | n + 1, h, h2 => by
    rcases Nat.lt_or_ge m (n + 1) with h1 | h1
    · have ih := blw_n (ρ := ρ) (k := k) (m := m) (n := n) (by omega) (fun c a b => h2 c a (by omega))
      by_cases e : ρ (31 + n) = -1
      · rw [blw_s0 e, ih]
      · rw [blw_s2 e (h2 n (by omega) (by omega) e), ih]
    · rw [show m = n + 1 by omega]
/-- the segment for a key, by ranks: keys stand in order -/
theorem segF_rank {ρ : Nat → Int32} {k : Int32} {N : Nat} (hs : Srt ρ N) : ∀ {n : Nat}, n ≤ N → (blw ρ k n = 0 ∧ segF ρ k n = 0) ∨ ∃ c, c < n ∧ ¬ ρ (31 + c) = -1 ∧ ρ (31 + c) < k ∧ cnt ρ 0 c + 1 = blw ρ k n ∧ segF ρ k n = c / 4
  | 0, _ => Or.inl ⟨rfl, rfl⟩
  | n + 1, hn => by
    by_cases e : ¬ ρ (31 + n) = -1 ∧ ρ (31 + n) < k
    · right
      have hb : blw ρ k n = cnt ρ 0 n := blw_c (fun c hc hk => Int32.lt_trans (hs c n hc (by omega) hk e.1) e.2)
      exact ⟨n, by omega, e.1, e.2, by rw [blw_s1 e.1 e.2, hb], if_pos e⟩
    · have hsg : segF ρ k (n + 1) = segF ρ k n := if_neg e
      have hb : blw ρ k (n + 1) = blw ρ k n := by
        by_cases e1 : ρ (31 + n) = -1
        · exact blw_s0 e1
        · exact blw_s2 e1 (fun z => e ⟨e1, z⟩)
      rw [hsg, hb]
      rcases segF_rank hs (n := n) (by omega) with h | ⟨c, h1, h2⟩
      · exact Or.inl h
      · exact Or.inr ⟨c, by omega, h2⟩
end
section
theorem nthF_cases (ρ : Nat → Int32) (i : Nat) : ∀ n, (∃ c, c < n ∧ ¬ ρ (31 + c) = -1 ∧ cnt ρ 0 c = i ∧ nthF ρ i n = nI c) ∨ (cnt ρ 0 n ≤ i ∧ nthF ρ i n = -1)
  | 0 => Or.inr ⟨Nat.zero_le _, rfl⟩
  | n + 1 => by
    by_cases e : ¬ ρ (31 + n) = -1 ∧ cnt ρ 0 n = i
    · exact Or.inl ⟨n, by omega, e.1, e.2, if_pos e⟩
    · rcases nthF_cases ρ i n with ⟨c, h1, h2, h3, h4⟩ | ⟨h1, h2⟩
      · exact Or.inl ⟨c, by omega, h2, h3, by rw [← h4]; exact if_neg e⟩
      · refine Or.inr ⟨?_, by rw [← h2]; exact if_neg e⟩
        by_cases e1 : ρ (31 + n) = -1
        · rw [cnt0_s0 e1]; exact h1
        · rw [cnt0_s1 e1]
          have : ¬ cnt ρ 0 n = i := fun z => e ⟨e1, z⟩
          omega
def keyNF (ρ : Nat → Int32) (i : Nat) : Nat → Int32
  | 0 => -1
  | n + 1 => if ¬ ρ (31 + n) = -1 ∧ cnt ρ 0 n = i then ρ (31 + n) else keyNF ρ i n
theorem keyNF_none {ρ : Nat → Int32} {i : Nat} : ∀ {n : Nat}, cnt ρ 0 n ≤ i → keyNF ρ i n = -1
  | 0, _ => rfl
  | n + 1, h => by
    have h1 : cnt ρ 0 n ≤ cnt ρ 0 (n + 1) := cnt_mono ρ 0 (Nat.le_succ n)
    unfold keyNF
    by_cases e : ρ (31 + n) = -1
    · rw [if_neg (fun z => z.1 e)]; exact keyNF_none (Nat.le_trans h1 h)
    · have h2 := cnt0_s1 e
      rw [if_neg (fun z => by omega)]; exact keyNF_none (Nat.le_trans h1 h)
theorem keyNF_at {ρ : Nat → Int32} {i c : Nat} (hk : ¬ ρ (31 + c) = -1) (hi : cnt ρ 0 c = i) : ∀ {n : Nat}, c < n → keyNF ρ i n = ρ (31 + c)
  | 0, h => absurd h (Nat.not_lt_zero _)
  | n + 1, h => by
    unfold keyNF
    by_cases e : c = n
    · subst e; rw [if_pos ⟨hk, hi⟩]
    · have hc := cnt0_s1 hk
      have hm : cnt ρ 0 (c + 1) ≤ cnt ρ 0 n := cnt_mono ρ 0 (by omega)
      rw [if_neg (fun z => by omega)]
      exact keyNF_at hk hi (by omega)
def crdF (ρ : Nat → Int32) (a b : Int32) (n : Nat) : Int32 := if blw ρ a n = blw ρ (b + 1) n then 0 else nthF ρ (blw ρ (b + 1) n - 1) n - nthF ρ (blw ρ a n) n + 1
theorem blw_mono {ρ : Nat → Int32} {a b : Int32} (h : a ≤ b) : ∀ n, blw ρ a n ≤ blw ρ b n
  | 0 => Nat.le_refl _
  | n + 1 => by
    have ih := blw_mono (ρ := ρ) h n
    by_cases e : ρ (31 + n) = -1
    · rw [blw_s0 e, blw_s0 e]; exact ih
    · by_cases e1 : ρ (31 + n) < a
      · rw [blw_s1 e e1, blw_s1 e (Int32.lt_of_lt_of_le e1 h)]; omega
      · rw [blw_s2 e e1]
        by_cases e2 : ρ (31 + n) < b
        · rw [blw_s1 e e2]; omega
        · rw [blw_s2 e e2]; exact ih
def mixF (f g : Nat → Int32) (c : Nat) : Nat → Int32 := fun j => if j < c then g j else f j
theorem mixF_0 (f g : Nat → Int32) : mixF f g 0 = f := by funext j; simp [mixF]
theorem mixF_s (f g : Nat → Int32) (c : Nat) : upd (mixF f g c) c (g c) = mixF f g (c + 1) := by
  funext j
  unfold upd mixF
  by_cases e : j = c
  · subst e; rw [if_pos rfl, if_pos (by omega)]
  · rw [if_neg e]
    by_cases e2 : j < c
    · rw [if_pos e2, if_pos (by omega)]
    · rw [if_neg e2, if_neg (by omega)]
theorem mixF_e {f g : Nat → Int32} {c : Nat} (h : ∀ j, c ≤ j → f j = g j) : mixF f g c = g := by
  funext j
  unfold mixF
  by_cases e : j < c
  · rw [if_pos e]
  · rw [if_neg e]; exact h j (by omega)
theorem mix_k (ρ σ : Nat → Int32) : mixF (kA ρ) (kA σ) 64 = kA σ := mixF_e (fun j h => by unfold kA; rw [if_neg (by omega), if_neg (by omega)])
theorem mix_v (ρ σ : Nat → Int32) : mixF (vA ρ) (vA σ) 64 = vA σ := mixF_e (fun j h => by unfold vA; rw [if_neg (by omega), if_neg (by omega)])
theorem mix_g (w : Nat) (ρ σ : Nat → Int32) : mixF (gA w ρ) (gA w σ) 8 = gA w σ := mixF_e (fun j h => by unfold gA; rw [if_neg (by omega), if_neg (by omega)])

set_option maxRecDepth 100000 in
set_option maxHeartbeats 4000000 in
theorem c_X1_keyNumber (l : Launch) (D : va_G) (cA cB : ClassId) (q : Nat → Nat) (ρ : Nat → Int32) (n : Nat) (hsz : ρ 0 = nI n) (h3 : n = 16 ∨ n = 32 ∨ n = 64) (i : Nat) (hi : i < 2 ^ 31) : Mt l D (tyS cA cB) yX1_keyNumber cX1_keyNumber 2 (some .int) ({ frames := 2, cells := 0, slots := 0, locals := 44 } : Room) [.ref (q 0), .int (nI i)] (rowW cA q ρ) Unit (fun v _ => v = some (.int (keyNF ρ i n))) (fun _ => rowW cA q ρ) 0 0 := by
  refine mt_in RX1 ([some (.ref (q 0)), some (.int (nI i))]) rfl (by decide +kernel) rfl (Nat.le_of_ble_eq_true rfl) rfl rfl (fun X sz => ?_)
  have hb : n ≤ 64 := by omega
  refine r_aload_n 0 dX1_keyNumber_0 rfl rfl ?_
  refine r_aload_n 0 dX1_keyNumber_1 rfl rfl ?_
  refine r_iload_n 1 dX1_keyNumber_2 rfl rfl ?_
  refine r_callV (As := [.int (nI i)]) (st := [.ref (q 0)]) [0, 1, 2, 3, 4, 5] [] (fun _ => rowW cA q ρ) [0, 1, 2, 3, 4, 5] (c_X1_cellNumber l D cA cB q ρ n (hsz) h3 (i) (by omega)) kv_X1_cellNumber ml_X1_53 dX1_keyNumber_3 rfl rfl rfl rfl rfl rfl rfl rfl (by decide) (fun _ => rfl) rfl rfl (Nat.le_of_ble_eq_true rfl) (fun v u h => ?_)
  subst h
  refine r_st (st' := [.int (nthF ρ i n), .ref (q 0)]) rfl ?_
  rcases nthF_cases ρ i n with ⟨c, hc, hk, hi2, e⟩ | ⟨hi2, e⟩
  · refine r_top e ?_
    refine r_callV (As := [.int (nI c)]) (st := []) [0, 1, 2, 3, 4, 5] [] (fun _ => rowW cA q ρ) [0, 1, 2, 3, 4, 5] (c_X1_keyIn l D cA cB q ρ (c) (by omega)) kv_X1_keyIn ml_X1_49 dX1_keyNumber_6 rfl rfl rfl rfl rfl rfl rfl rfl (by decide) (fun _ => rfl) rfl rfl (Nat.le_of_ble_eq_true rfl) (fun v u h => ?_)
    subst h
    refine r_st (st' := [.int (ρ (31 + c))]) rfl ?_
    exact r_iret () dX1_keyNumber_9 (by first | rw [keyNF_at hk hi2 hc] | rw [keyNF_none hi2]) (rfl)
  · refine r_top e ?_
    refine r_callV (As := [.int (-1)]) (st := []) [0, 1, 2, 3, 4, 5] [] (fun _ => rowW cA q ρ) [0, 1, 2, 3, 4, 5] (c_X1_keyIn_m l D cA cB q ρ ) kv_X1_keyIn ml_X1_49 dX1_keyNumber_6 rfl rfl rfl rfl rfl rfl rfl rfl (by decide) (fun _ => rfl) rfl rfl (Nat.le_of_ble_eq_true rfl) (fun v u h => ?_)
    subst h
    refine r_st (st' := [.int (-1)]) rfl ?_
    exact r_iret () dX1_keyNumber_9 (by first | rw [keyNF_at hk hi2 hc] | rw [keyNF_none hi2]) (rfl)

set_option maxRecDepth 100000 in
set_option maxHeartbeats 4000000 in
theorem c_X1_cellsRead (l : Launch) (D : va_G) (cA cB : ClassId) (q : Nat → Nat) (ρ : Nat → Int32) (n : Nat) (hsz : ρ 0 = nI n) (h3 : n = 16 ∨ n = 32 ∨ n = 64) (a b : Int32) (hab : a ≤ b + 1) : Mt l D (tyS cA cB) yX1_cellsRead cX1_cellsRead 5 (some .int) ({ frames := 2, cells := 0, slots := 0, locals := 44 } : Room) [.ref (q 0), .int (a), .int (b)] (rowW cA q ρ) Unit (fun v _ => v = some (.int (crdF ρ a b n))) (fun _ => rowW cA q ρ) 0 0 := by
  refine mt_in RX1 ([some (.ref (q 0)), some (.int (a)), some (.int (b)), none, none]) rfl (by decide +kernel) rfl (Nat.le_of_ble_eq_true rfl) rfl rfl (fun X sz => ?_)
  have hb : n ≤ 64 := by omega
  have y1 := blw_le ρ a n
  have y2 := blw_le ρ (b + 1) n
  have y3 := blw_mono (ρ := ρ) hab n
  refine r_aload_n 0 dX1_cellsRead_0 rfl rfl ?_
  refine r_iload_n 1 dX1_cellsRead_1 rfl rfl ?_
  refine r_callV (As := [.int (a)]) (st := []) [0, 1, 2, 3, 4, 5] [] (fun _ => rowW cA q ρ) [0, 1, 2, 3, 4, 5] (c_X1_keysBelow l D cA cB q ρ n (hsz) h3 (a)) kv_X1_keysBelow ml_X1_59 dX1_cellsRead_2 rfl rfl rfl rfl rfl rfl rfl rfl (by decide) (fun _ => rfl) rfl rfl (Nat.le_of_ble_eq_true rfl) (fun v u h => ?_)
  subst h
  refine r_st (st' := [.int (nI (blw ρ a n))]) rfl ?_
  refine r_istore_n 3 ([some (.ref (q 0)), some (.int (a)), some (.int (b)), some (.int (nI (blw ρ a n))), none]) dX1_cellsRead_5 rfl (Nat.le_of_ble_eq_true rfl) rfl rfl ?_
  refine r_aload_n 0 dX1_cellsRead_6 rfl rfl ?_
  refine r_iload_n 2 dX1_cellsRead_7 rfl rfl ?_
  refine r_iconst (nI 1) dX1_cellsRead_8 (by decide +kernel) ?_
  refine r_iadd dX1_cellsRead_9 ?_
  refine r_top (y := b + 1) rfl ?_
  refine r_callV (As := [.int (b + 1)]) (st := []) [0, 1, 2, 3, 4, 5] [] (fun _ => rowW cA q ρ) [0, 1, 2, 3, 4, 5] (c_X1_keysBelow l D cA cB q ρ n (hsz) h3 (b + 1)) kv_X1_keysBelow ml_X1_59 dX1_cellsRead_10 rfl rfl rfl rfl rfl rfl rfl rfl (by decide) (fun _ => rfl) rfl rfl (Nat.le_of_ble_eq_true rfl) (fun v u h => ?_)
  subst h
  refine r_st (st' := [.int (nI (blw ρ (b + 1) n))]) rfl ?_
  refine r_istore ([some (.ref (q 0)), some (.int (a)), some (.int (b)), some (.int (nI (blw ρ a n))), some (.int (nI (blw ρ (b + 1) n)))]) dX1_cellsRead_13 (Nat.le_of_ble_eq_true rfl) rfl rfl ?_
  refine r_iload_n 3 dX1_cellsRead_15 rfl rfl ?_
  refine r_iload dX1_cellsRead_16 rfl ?_
  refine r_ncmp_ne 25 (by omega) (by omega) dX1_cellsRead_18 (by decide) (fun h1 => ?_) (fun h1 => ?_)
  · refine r_aload_n 0 dX1_cellsRead_25 rfl rfl ?_
    refine r_iload dX1_cellsRead_26 rfl ?_
    refine r_iconst (nI 1) dX1_cellsRead_28 (by decide +kernel) ?_
    refine r_nisub (by omega) dX1_cellsRead_29 ?_
    refine r_callV (As := [.int (nI ((blw ρ (b + 1) n) - 1))]) (st := []) [0, 1, 2, 3, 4, 5] [] (fun _ => rowW cA q ρ) [0, 1, 2, 3, 4, 5] (c_X1_cellNumber l D cA cB q ρ n (hsz) h3 ((blw ρ (b + 1) n) - 1) (by omega)) kv_X1_cellNumber ml_X1_53 dX1_cellsRead_30 rfl rfl rfl rfl rfl rfl rfl rfl (by decide) (fun _ => rfl) rfl rfl (Nat.le_of_ble_eq_true rfl) (fun v u h => ?_)
    subst h
    refine r_st (st' := [.int (nthF ρ ((blw ρ (b + 1) n) - 1) n)]) rfl ?_
    refine r_aload_n 0 dX1_cellsRead_33 rfl rfl ?_
    refine r_iload_n 3 dX1_cellsRead_34 rfl rfl ?_
    refine r_callV (As := [.int (nI (blw ρ a n))]) (st := [.int (nthF ρ ((blw ρ (b + 1) n) - 1) n)]) [0, 1, 2, 3, 4, 5] [] (fun _ => rowW cA q ρ) [0, 1, 2, 3, 4, 5] (c_X1_cellNumber l D cA cB q ρ n (hsz) h3 (blw ρ a n) (by omega)) kv_X1_cellNumber ml_X1_53 dX1_cellsRead_35 rfl rfl rfl rfl rfl rfl rfl rfl (by decide) (fun _ => rfl) rfl rfl (Nat.le_of_ble_eq_true rfl) (fun v u h => ?_)
    subst h
    refine r_st (st' := [.int (nthF ρ (blw ρ a n) n), .int (nthF ρ ((blw ρ (b + 1) n) - 1) n)]) rfl ?_
    refine r_isub dX1_cellsRead_38 ?_
    refine r_iconst (nI 1) dX1_cellsRead_39 (by decide +kernel) ?_
    refine r_iadd dX1_cellsRead_40 ?_
    exact r_iret () dX1_cellsRead_41 (by unfold crdF; rw [if_neg h1]; rfl) (rfl)
  · refine r_iconst (nI 0) dX1_cellsRead_21 (by decide +kernel) ?_
    refine r_goto 41 dX1_cellsRead_22 (by decide) ?_
    exact r_iret () dX1_cellsRead_41 (by unfold crdF; rw [if_pos h1]; rfl) (rfl)

set_option maxRecDepth 100000 in
set_option maxHeartbeats 4000000 in
theorem lp_X1_note (l : Launch) (D : va_G) (cA cB : ClassId) (q : Nat → Nat) (ρ : Nat → Int32) (g : Nat) (hg : ρ 6 = nI g) (hg8 : g ≤ 8) (a b m : Int32) (X : Cx) (sz : Nat) : ∀ (f i : Nat), i ≤ 7 → i < f → G l X ({ frames := 1, cells := 0, slots := 0, locals := 21 } : Room) cX1_note RX1 none D (tyS cA cB) (va_A (rowW cA q ρ) sz) (QX X D (tyS cA cB) (rowW cA q ρ) sz Unit (fun v _ => v = none) (fun _ => rowW cA q (noteF ρ g a b m)) 0 0) 0 0 ([(q 0, .inr (1, [.int (ρ 0), .int (ρ 1), .int (ρ 2), .int (ρ 3), .int (ρ 4), .int (ρ 5), .int (ρ 6), .ref (q 1), .ref (q 2), .ref (q 3), .ref (q 4), .ref (q 5)])), (q 1, .inl (cA, 64, .inl (kA ρ))), (q 2, .inl (cA, 64, .inl (vA ρ))), (q 3, .inl (cA, 8, .inl (shf (gA 0 ρ) i))), (q 4, .inl (cA, 8, .inl (shf (gA 1 ρ) i))), (q 5, .inl (cA, 8, .inl (shf (gA 2 ρ) i)))]) 4 ([some (.ref (q 0)), some (.int (a)), some (.int (b)), some (.int (m)), some (.int (nI i))]) [] := by
  intro f
  induction f with
  | zero => intro i h1 h2; omega
  | succ f ih =>
    intro i hi hf
    refine r_iload dX1_note_4 rfl ?_
    refine r_if_le 63 dX1_note_6 (by decide) (fun h1 => ?_) (fun h1 => ?_)
    · obtain rfl : i = 0 := by have := (nI_le_iff (a := i) (b := 0) (by omega) (by decide)).mp h1; omega
      refine r_aload_n 0 dX1_note_63 rfl rfl ?_
      refine r_get 0 fk_X1_22 dX1_note_64 rfl rfl ?_
      refine r_iconst (nI 0) dX1_note_67 (by decide +kernel) ?_
      refine r_iload_n 1 dX1_note_68 rfl rfl ?_
      refine r_iast 3 (0) ([(q 0, .inr (1, [.int (ρ 0), .int (ρ 1), .int (ρ 2), .int (ρ 3), .int (ρ 4), .int (ρ 5), .int (ρ 6), .ref (q 1), .ref (q 2), .ref (q 3), .ref (q 4), .ref (q 5)])), (q 1, .inl (cA, 64, .inl (kA ρ))), (q 2, .inl (cA, 64, .inl (vA ρ))), (q 3, .inl (cA, 8, .inl (upd (shf (gA 0 ρ) 0) 0 a))), (q 4, .inl (cA, 8, .inl (shf (gA 1 ρ) 0))), (q 5, .inl (cA, 8, .inl (shf (gA 2 ρ) 0)))]) dX1_note_69 rfl rfl rfl (by omega) (Nat.le_of_ble_eq_true rfl) rfl ?_
      refine r_aload_n 0 dX1_note_70 rfl rfl ?_
      refine r_get 0 fk_X1_25 dX1_note_71 rfl rfl ?_
      refine r_iconst (nI 0) dX1_note_74 (by decide +kernel) ?_
      refine r_iload_n 2 dX1_note_75 rfl rfl ?_
      refine r_iast 4 (0) ([(q 0, .inr (1, [.int (ρ 0), .int (ρ 1), .int (ρ 2), .int (ρ 3), .int (ρ 4), .int (ρ 5), .int (ρ 6), .ref (q 1), .ref (q 2), .ref (q 3), .ref (q 4), .ref (q 5)])), (q 1, .inl (cA, 64, .inl (kA ρ))), (q 2, .inl (cA, 64, .inl (vA ρ))), (q 3, .inl (cA, 8, .inl (upd (shf (gA 0 ρ) 0) 0 a))), (q 4, .inl (cA, 8, .inl (upd (shf (gA 1 ρ) 0) 0 b))), (q 5, .inl (cA, 8, .inl (shf (gA 2 ρ) 0)))]) dX1_note_76 rfl rfl rfl (by omega) (Nat.le_of_ble_eq_true rfl) rfl ?_
      refine r_aload_n 0 dX1_note_77 rfl rfl ?_
      refine r_get 0 fk_X1_28 dX1_note_78 rfl rfl ?_
      refine r_iconst (nI 0) dX1_note_81 (by decide +kernel) ?_
      refine r_iload_n 3 dX1_note_82 rfl rfl ?_
      refine r_iast 5 (0) ([(q 0, .inr (1, [.int (ρ 0), .int (ρ 1), .int (ρ 2), .int (ρ 3), .int (ρ 4), .int (ρ 5), .int (ρ 6), .ref (q 1), .ref (q 2), .ref (q 3), .ref (q 4), .ref (q 5)])), (q 1, .inl (cA, 64, .inl (kA ρ))), (q 2, .inl (cA, 64, .inl (vA ρ))), (q 3, .inl (cA, 8, .inl (upd (shf (gA 0 ρ) 0) 0 a))), (q 4, .inl (cA, 8, .inl (upd (shf (gA 1 ρ) 0) 0 b))), (q 5, .inl (cA, 8, .inl (upd (shf (gA 2 ρ) 0) 0 m)))]) dX1_note_83 rfl rfl rfl (by omega) (Nat.le_of_ble_eq_true rfl) rfl ?_
      refine r_aload_n 0 dX1_note_84 rfl rfl ?_
      refine r_aload_n 0 dX1_note_85 rfl rfl ?_
      refine r_get 0 fk_X1_46 dX1_note_86 rfl rfl ?_
      refine r_top (hg) ?_
      refine r_iconst (nI 1) dX1_note_89 (by decide +kernel) ?_
      refine r_niadd dX1_note_90 ?_
      refine r_bipush (nI 8) dX1_note_91 (by decide +kernel) ?_
      refine r_mmin (by omega) (by omega) mm_X1_73 rfl rfl rfl rfl dX1_note_93 ?_
      refine r_put 0 ([(q 0, .inr (1, [.int (ρ 0), .int (ρ 1), .int (ρ 2), .int (ρ 3), .int (ρ 4), .int (ρ 5), .int (nI (min (g + 1) 8)), .ref (q 1), .ref (q 2), .ref (q 3), .ref (q 4), .ref (q 5)])), (q 1, .inl (cA, 64, .inl (kA ρ))), (q 2, .inl (cA, 64, .inl (vA ρ))), (q 3, .inl (cA, 8, .inl (upd (shf (gA 0 ρ) 0) 0 a))), (q 4, .inl (cA, 8, .inl (upd (shf (gA 1 ρ) 0) 0 b))), (q 5, .inl (cA, 8, .inl (upd (shf (gA 2 ρ) 0) 0 m)))]) fk_X1_46 dX1_note_96 rfl rfl rfl rfl (Nat.le_of_ble_eq_true rfl) rfl ?_
      refine r_aload_n 0 dX1_note_99 rfl rfl ?_
      refine r_dup rfl dX1_note_100 ?_
      refine r_get 0 fk_X1_34 dX1_note_101 rfl rfl ?_
      refine r_iconst (nI 1) dX1_note_104 (by decide +kernel) ?_
      refine r_iadd dX1_note_105 ?_
      refine r_put 0 ([(q 0, .inr (1, [.int (ρ 0), .int (ρ 1), .int ((ρ 2) + (nI (1))), .int (ρ 3), .int (ρ 4), .int (ρ 5), .int (nI (min (g + 1) 8)), .ref (q 1), .ref (q 2), .ref (q 3), .ref (q 4), .ref (q 5)])), (q 1, .inl (cA, 64, .inl (kA ρ))), (q 2, .inl (cA, 64, .inl (vA ρ))), (q 3, .inl (cA, 8, .inl (upd (shf (gA 0 ρ) 0) 0 a))), (q 4, .inl (cA, 8, .inl (upd (shf (gA 1 ρ) 0) 0 b))), (q 5, .inl (cA, 8, .inl (upd (shf (gA 2 ρ) 0) 0 m)))]) fk_X1_34 dX1_note_106 rfl rfl rfl rfl (Nat.le_of_ble_eq_true rfl) rfl ?_
      refine r_aload_n 0 dX1_note_109 rfl rfl ?_
      refine r_dup rfl dX1_note_110 ?_
      refine r_get 0 fk_X1_37 dX1_note_111 rfl rfl ?_
      refine r_iload_n 3 dX1_note_114 rfl rfl ?_
      refine r_iadd dX1_note_115 ?_
      refine r_put 0 ([(q 0, .inr (1, [.int (ρ 0), .int (ρ 1), .int ((ρ 2) + (nI (1))), .int ((ρ 3) + m), .int (ρ 4), .int (ρ 5), .int (nI (min (g + 1) 8)), .ref (q 1), .ref (q 2), .ref (q 3), .ref (q 4), .ref (q 5)])), (q 1, .inl (cA, 64, .inl (kA ρ))), (q 2, .inl (cA, 64, .inl (vA ρ))), (q 3, .inl (cA, 8, .inl (upd (shf (gA 0 ρ) 0) 0 a))), (q 4, .inl (cA, 8, .inl (upd (shf (gA 1 ρ) 0) 0 b))), (q 5, .inl (cA, 8, .inl (upd (shf (gA 2 ρ) 0) 0 m)))]) fk_X1_37 dX1_note_116 rfl rfl rfl rfl (Nat.le_of_ble_eq_true rfl) rfl ?_
      exact r_vret () dX1_note_119 (rfl) (by rw [note_k (ρ := ρ) (g := g) (a := a) (b := b) (m := m), note_v (ρ := ρ) (g := g) (a := a) (b := b) (m := m), note_g (x := a) (g := g) (a := a) (b := b) (m := m) (w := 0) (by omega) rfl, note_g (x := b) (g := g) (a := a) (b := b) (m := m) (w := 1) (by omega) rfl, note_g (x := m) (g := g) (a := a) (b := b) (m := m) (w := 2) (by omega) rfl]; rfl)
    · have hi0 : 0 < i := by rcases Nat.eq_zero_or_pos i with z | z; exact absurd (by rw [z]; exact Int32.le_refl _) h1; exact z
      refine r_aload_n 0 dX1_note_9 rfl rfl ?_
      refine r_get 0 fk_X1_22 dX1_note_10 rfl rfl ?_
      refine r_iload dX1_note_13 rfl ?_
      refine r_aload_n 0 dX1_note_15 rfl rfl ?_
      refine r_get 0 fk_X1_22 dX1_note_16 rfl rfl ?_
      refine r_iload dX1_note_19 rfl ?_
      refine r_iconst (nI 1) dX1_note_21 (by decide +kernel) ?_
      refine r_nisub (by omega) dX1_note_22 ?_
      refine r_iald 3 (i - 1) dX1_note_23 rfl rfl rfl (by omega) (Nat.le_of_ble_eq_true rfl) ?_
      refine r_iast 3 (i) ([(q 0, .inr (1, [.int (ρ 0), .int (ρ 1), .int (ρ 2), .int (ρ 3), .int (ρ 4), .int (ρ 5), .int (ρ 6), .ref (q 1), .ref (q 2), .ref (q 3), .ref (q 4), .ref (q 5)])), (q 1, .inl (cA, 64, .inl (kA ρ))), (q 2, .inl (cA, 64, .inl (vA ρ))), (q 3, .inl (cA, 8, .inl (upd (shf (gA 0 ρ) i) i ((shf (gA 0 ρ) i) (i - 1))))), (q 4, .inl (cA, 8, .inl (shf (gA 1 ρ) i))), (q 5, .inl (cA, 8, .inl (shf (gA 2 ρ) i)))]) dX1_note_24 rfl rfl rfl (by omega) (Nat.le_of_ble_eq_true rfl) rfl ?_
      refine r_ws (ws' := [(q 0, .inr (1, [.int (ρ 0), .int (ρ 1), .int (ρ 2), .int (ρ 3), .int (ρ 4), .int (ρ 5), .int (ρ 6), .ref (q 1), .ref (q 2), .ref (q 3), .ref (q 4), .ref (q 5)])), (q 1, .inl (cA, 64, .inl (kA ρ))), (q 2, .inl (cA, 64, .inl (vA ρ))), (q 3, .inl (cA, 8, .inl (shf (gA 0 ρ) (i - 1)))), (q 4, .inl (cA, 8, .inl (shf (gA 1 ρ) i))), (q 5, .inl (cA, 8, .inl (shf (gA 2 ρ) i)))]) (by rw [shf_step (by omega) (by omega)]) ?_
      refine r_aload_n 0 dX1_note_25 rfl rfl ?_
      refine r_get 0 fk_X1_25 dX1_note_26 rfl rfl ?_
      refine r_iload dX1_note_29 rfl ?_
      refine r_aload_n 0 dX1_note_31 rfl rfl ?_
      refine r_get 0 fk_X1_25 dX1_note_32 rfl rfl ?_
      refine r_iload dX1_note_35 rfl ?_
      refine r_iconst (nI 1) dX1_note_37 (by decide +kernel) ?_
      refine r_nisub (by omega) dX1_note_38 ?_
      refine r_iald 4 (i - 1) dX1_note_39 rfl rfl rfl (by omega) (Nat.le_of_ble_eq_true rfl) ?_
      refine r_iast 4 (i) ([(q 0, .inr (1, [.int (ρ 0), .int (ρ 1), .int (ρ 2), .int (ρ 3), .int (ρ 4), .int (ρ 5), .int (ρ 6), .ref (q 1), .ref (q 2), .ref (q 3), .ref (q 4), .ref (q 5)])), (q 1, .inl (cA, 64, .inl (kA ρ))), (q 2, .inl (cA, 64, .inl (vA ρ))), (q 3, .inl (cA, 8, .inl (shf (gA 0 ρ) (i - 1)))), (q 4, .inl (cA, 8, .inl (upd (shf (gA 1 ρ) i) i ((shf (gA 1 ρ) i) (i - 1))))), (q 5, .inl (cA, 8, .inl (shf (gA 2 ρ) i)))]) dX1_note_40 rfl rfl rfl (by omega) (Nat.le_of_ble_eq_true rfl) rfl ?_
      refine r_ws (ws' := [(q 0, .inr (1, [.int (ρ 0), .int (ρ 1), .int (ρ 2), .int (ρ 3), .int (ρ 4), .int (ρ 5), .int (ρ 6), .ref (q 1), .ref (q 2), .ref (q 3), .ref (q 4), .ref (q 5)])), (q 1, .inl (cA, 64, .inl (kA ρ))), (q 2, .inl (cA, 64, .inl (vA ρ))), (q 3, .inl (cA, 8, .inl (shf (gA 0 ρ) (i - 1)))), (q 4, .inl (cA, 8, .inl (shf (gA 1 ρ) (i - 1)))), (q 5, .inl (cA, 8, .inl (shf (gA 2 ρ) i)))]) (by rw [shf_step (by omega) (by omega)]) ?_
      refine r_aload_n 0 dX1_note_41 rfl rfl ?_
      refine r_get 0 fk_X1_28 dX1_note_42 rfl rfl ?_
      refine r_iload dX1_note_45 rfl ?_
      refine r_aload_n 0 dX1_note_47 rfl rfl ?_
      refine r_get 0 fk_X1_28 dX1_note_48 rfl rfl ?_
      refine r_iload dX1_note_51 rfl ?_
      refine r_iconst (nI 1) dX1_note_53 (by decide +kernel) ?_
      refine r_nisub (by omega) dX1_note_54 ?_
      refine r_iald 5 (i - 1) dX1_note_55 rfl rfl rfl (by omega) (Nat.le_of_ble_eq_true rfl) ?_
      refine r_iast 5 (i) ([(q 0, .inr (1, [.int (ρ 0), .int (ρ 1), .int (ρ 2), .int (ρ 3), .int (ρ 4), .int (ρ 5), .int (ρ 6), .ref (q 1), .ref (q 2), .ref (q 3), .ref (q 4), .ref (q 5)])), (q 1, .inl (cA, 64, .inl (kA ρ))), (q 2, .inl (cA, 64, .inl (vA ρ))), (q 3, .inl (cA, 8, .inl (shf (gA 0 ρ) (i - 1)))), (q 4, .inl (cA, 8, .inl (shf (gA 1 ρ) (i - 1)))), (q 5, .inl (cA, 8, .inl (upd (shf (gA 2 ρ) i) i ((shf (gA 2 ρ) i) (i - 1)))))]) dX1_note_56 rfl rfl rfl (by omega) (Nat.le_of_ble_eq_true rfl) rfl ?_
      refine r_ws (ws' := [(q 0, .inr (1, [.int (ρ 0), .int (ρ 1), .int (ρ 2), .int (ρ 3), .int (ρ 4), .int (ρ 5), .int (ρ 6), .ref (q 1), .ref (q 2), .ref (q 3), .ref (q 4), .ref (q 5)])), (q 1, .inl (cA, 64, .inl (kA ρ))), (q 2, .inl (cA, 64, .inl (vA ρ))), (q 3, .inl (cA, 8, .inl (shf (gA 0 ρ) (i - 1)))), (q 4, .inl (cA, 8, .inl (shf (gA 1 ρ) (i - 1)))), (q 5, .inl (cA, 8, .inl (shf (gA 2 ρ) (i - 1))))]) (by rw [shf_step (by omega) (by omega)]) ?_
      refine r_iinc (v := nI (i - 1)) ([some (.ref (q 0)), some (.int (a)), some (.int (b)), some (.int (m)), some (.int (nI (i - 1)))]) dX1_note_57 rfl (nI_m1 (by omega)) (Nat.le_of_ble_eq_true rfl) rfl rfl ?_
      refine r_goto 4 dX1_note_60 (by decide) ?_
      exact ih _ (by omega) (by omega)

set_option maxRecDepth 100000 in
set_option maxHeartbeats 4000000 in
theorem c_X1_note (l : Launch) (D : va_G) (cA cB : ClassId) (q : Nat → Nat) (ρ : Nat → Int32) (g : Nat) (hg : ρ 6 = nI g) (hg8 : g ≤ 8) (a b m : Int32) : Mt l D (tyS cA cB) yX1_note cX1_note 5 none ({ frames := 1, cells := 0, slots := 0, locals := 21 } : Room) [.ref (q 0), .int (a), .int (b), .int (m)] (rowW cA q ρ) Unit (fun v _ => v = none) (fun _ => rowW cA q (noteF ρ g a b m)) 0 0 := by
  refine mt_in RX1 ([some (.ref (q 0)), some (.int (a)), some (.int (b)), some (.int (m)), none]) rfl (by decide +kernel) rfl (Nat.le_of_ble_eq_true rfl) rfl rfl (fun X sz => ?_)
  refine r_bipush (nI 7) dX1_note_0 (by decide +kernel) ?_
  refine r_istore ([some (.ref (q 0)), some (.int (a)), some (.int (b)), some (.int (m)), some (.int (nI 7))]) dX1_note_2 (Nat.le_of_ble_eq_true rfl) rfl rfl ?_
  refine r_ws (ws' := [(q 0, .inr (1, [.int (ρ 0), .int (ρ 1), .int (ρ 2), .int (ρ 3), .int (ρ 4), .int (ρ 5), .int (ρ 6), .ref (q 1), .ref (q 2), .ref (q 3), .ref (q 4), .ref (q 5)])), (q 1, .inl (cA, 64, .inl (kA ρ))), (q 2, .inl (cA, 64, .inl (vA ρ))), (q 3, .inl (cA, 8, .inl (shf (gA 0 ρ) 7))), (q 4, .inl (cA, 8, .inl (shf (gA 1 ρ) 7))), (q 5, .inl (cA, 8, .inl (shf (gA 2 ρ) 7)))]) (by rw [shf_7, shf_7, shf_7]) ?_
  exact lp_X1_note l D cA cB q ρ g hg hg8 a b m X sz 8 7 (by omega) (by omega)

set_option maxRecDepth 100000 in
set_option maxHeartbeats 4000000 in
theorem lp_X1_copyOf2 (l : Launch) (D : va_G) (cA cB : ClassId) (q q2 : Nat → Nat) (ρ σ : Nat → Int32) (X : Cx) (sz : Nat) : ∀ (f c : Nat), c ≤ 8 → 8 < c + f → G l X ({ frames := 0, cells := 0, slots := 0, locals := 0 } : Room) cX1_copyOf RX1 none D (tyS cA cB) (va_A (rowW cA q ρ ++ (rowW cA q2 σ)) sz) (QX X D (tyS cA cB) (rowW cA q ρ ++ (rowW cA q2 σ)) sz Unit (fun v _ => v = none) (fun _ => rowW cA q σ ++ (rowW cA q2 σ)) 0 0) 0 0 ([(q 0, .inr (1, [.int (σ 0), .int (σ 1), .int (σ 2), .int (σ 3), .int (σ 4), .int (σ 5), .int (σ 6), .ref (q 1), .ref (q 2), .ref (q 3), .ref (q 4), .ref (q 5)])), (q 1, .inl (cA, 64, .inl (kA σ))), (q 2, .inl (cA, 64, .inl (vA σ))), (q 3, .inl (cA, 8, .inl (mixF (gA 0 ρ) (gA 0 σ) c))), (q 4, .inl (cA, 8, .inl (mixF (gA 1 ρ) (gA 1 σ) c))), (q 5, .inl (cA, 8, .inl (mixF (gA 2 ρ) (gA 2 σ) c)))] ++ (rowW cA q2 σ)) 96 ([some (.ref (q 0)), some (.ref (q2 0)), some (.int (nI c))]) [] := by
  intro f
  induction f with
  | zero => intro c h1 h2; omega
  | succ f ih =>
    intro c hc hf
    refine r_iload_n 2 dX1_copyOf_96 rfl rfl ?_
    refine r_bipush (nI 8) dX1_copyOf_97 (by decide +kernel) ?_
    refine r_ncmp_ge 144 (by omega) (by omega) dX1_copyOf_99 (by decide) (fun h1 => ?_) (fun h1 => ?_)
    · exact r_vret () dX1_copyOf_144 (rfl) (by rw [show c = 8 by omega, mix_g, mix_g, mix_g])
    · refine r_aload_n 0 dX1_copyOf_102 rfl rfl ?_
      refine r_get 0 fk_X1_22 dX1_copyOf_103 rfl rfl ?_
      refine r_iload_n 2 dX1_copyOf_106 rfl rfl ?_
      refine r_aload_n 1 dX1_copyOf_107 rfl rfl ?_
      refine r_get 6 fk_X1_22 dX1_copyOf_108 rfl rfl ?_
      refine r_iload_n 2 dX1_copyOf_111 rfl rfl ?_
      refine r_iald 9 (c) dX1_copyOf_112 rfl rfl rfl (by omega) (Nat.le_of_ble_eq_true rfl) ?_
      refine r_iast 3 (c) ([(q 0, .inr (1, [.int (σ 0), .int (σ 1), .int (σ 2), .int (σ 3), .int (σ 4), .int (σ 5), .int (σ 6), .ref (q 1), .ref (q 2), .ref (q 3), .ref (q 4), .ref (q 5)])), (q 1, .inl (cA, 64, .inl (kA σ))), (q 2, .inl (cA, 64, .inl (vA σ))), (q 3, .inl (cA, 8, .inl (upd (mixF (gA 0 ρ) (gA 0 σ) c) c ((gA 0 σ) c)))), (q 4, .inl (cA, 8, .inl (mixF (gA 1 ρ) (gA 1 σ) c))), (q 5, .inl (cA, 8, .inl (mixF (gA 2 ρ) (gA 2 σ) c)))] ++ (rowW cA q2 σ)) dX1_copyOf_113 rfl rfl rfl (by omega) (Nat.le_of_ble_eq_true rfl) rfl ?_
      refine r_ws (ws' := [(q 0, .inr (1, [.int (σ 0), .int (σ 1), .int (σ 2), .int (σ 3), .int (σ 4), .int (σ 5), .int (σ 6), .ref (q 1), .ref (q 2), .ref (q 3), .ref (q 4), .ref (q 5)])), (q 1, .inl (cA, 64, .inl (kA σ))), (q 2, .inl (cA, 64, .inl (vA σ))), (q 3, .inl (cA, 8, .inl (mixF (gA 0 ρ) (gA 0 σ) (c + 1)))), (q 4, .inl (cA, 8, .inl (mixF (gA 1 ρ) (gA 1 σ) c))), (q 5, .inl (cA, 8, .inl (mixF (gA 2 ρ) (gA 2 σ) c)))] ++ (rowW cA q2 σ)) (by rw [mixF_s]) ?_
      refine r_aload_n 0 dX1_copyOf_114 rfl rfl ?_
      refine r_get 0 fk_X1_25 dX1_copyOf_115 rfl rfl ?_
      refine r_iload_n 2 dX1_copyOf_118 rfl rfl ?_
      refine r_aload_n 1 dX1_copyOf_119 rfl rfl ?_
      refine r_get 6 fk_X1_25 dX1_copyOf_120 rfl rfl ?_
      refine r_iload_n 2 dX1_copyOf_123 rfl rfl ?_
      refine r_iald 10 (c) dX1_copyOf_124 rfl rfl rfl (by omega) (Nat.le_of_ble_eq_true rfl) ?_
      refine r_iast 4 (c) ([(q 0, .inr (1, [.int (σ 0), .int (σ 1), .int (σ 2), .int (σ 3), .int (σ 4), .int (σ 5), .int (σ 6), .ref (q 1), .ref (q 2), .ref (q 3), .ref (q 4), .ref (q 5)])), (q 1, .inl (cA, 64, .inl (kA σ))), (q 2, .inl (cA, 64, .inl (vA σ))), (q 3, .inl (cA, 8, .inl (mixF (gA 0 ρ) (gA 0 σ) (c + 1)))), (q 4, .inl (cA, 8, .inl (upd (mixF (gA 1 ρ) (gA 1 σ) c) c ((gA 1 σ) c)))), (q 5, .inl (cA, 8, .inl (mixF (gA 2 ρ) (gA 2 σ) c)))] ++ (rowW cA q2 σ)) dX1_copyOf_125 rfl rfl rfl (by omega) (Nat.le_of_ble_eq_true rfl) rfl ?_
      refine r_ws (ws' := [(q 0, .inr (1, [.int (σ 0), .int (σ 1), .int (σ 2), .int (σ 3), .int (σ 4), .int (σ 5), .int (σ 6), .ref (q 1), .ref (q 2), .ref (q 3), .ref (q 4), .ref (q 5)])), (q 1, .inl (cA, 64, .inl (kA σ))), (q 2, .inl (cA, 64, .inl (vA σ))), (q 3, .inl (cA, 8, .inl (mixF (gA 0 ρ) (gA 0 σ) (c + 1)))), (q 4, .inl (cA, 8, .inl (mixF (gA 1 ρ) (gA 1 σ) (c + 1)))), (q 5, .inl (cA, 8, .inl (mixF (gA 2 ρ) (gA 2 σ) c)))] ++ (rowW cA q2 σ)) (by rw [mixF_s]) ?_
      refine r_aload_n 0 dX1_copyOf_126 rfl rfl ?_
      refine r_get 0 fk_X1_28 dX1_copyOf_127 rfl rfl ?_
      refine r_iload_n 2 dX1_copyOf_130 rfl rfl ?_
      refine r_aload_n 1 dX1_copyOf_131 rfl rfl ?_
      refine r_get 6 fk_X1_28 dX1_copyOf_132 rfl rfl ?_
      refine r_iload_n 2 dX1_copyOf_135 rfl rfl ?_
      refine r_iald 11 (c) dX1_copyOf_136 rfl rfl rfl (by omega) (Nat.le_of_ble_eq_true rfl) ?_
      refine r_iast 5 (c) ([(q 0, .inr (1, [.int (σ 0), .int (σ 1), .int (σ 2), .int (σ 3), .int (σ 4), .int (σ 5), .int (σ 6), .ref (q 1), .ref (q 2), .ref (q 3), .ref (q 4), .ref (q 5)])), (q 1, .inl (cA, 64, .inl (kA σ))), (q 2, .inl (cA, 64, .inl (vA σ))), (q 3, .inl (cA, 8, .inl (mixF (gA 0 ρ) (gA 0 σ) (c + 1)))), (q 4, .inl (cA, 8, .inl (mixF (gA 1 ρ) (gA 1 σ) (c + 1)))), (q 5, .inl (cA, 8, .inl (upd (mixF (gA 2 ρ) (gA 2 σ) c) c ((gA 2 σ) c))))] ++ (rowW cA q2 σ)) dX1_copyOf_137 rfl rfl rfl (by omega) (Nat.le_of_ble_eq_true rfl) rfl ?_
      refine r_ws (ws' := [(q 0, .inr (1, [.int (σ 0), .int (σ 1), .int (σ 2), .int (σ 3), .int (σ 4), .int (σ 5), .int (σ 6), .ref (q 1), .ref (q 2), .ref (q 3), .ref (q 4), .ref (q 5)])), (q 1, .inl (cA, 64, .inl (kA σ))), (q 2, .inl (cA, 64, .inl (vA σ))), (q 3, .inl (cA, 8, .inl (mixF (gA 0 ρ) (gA 0 σ) (c + 1)))), (q 4, .inl (cA, 8, .inl (mixF (gA 1 ρ) (gA 1 σ) (c + 1)))), (q 5, .inl (cA, 8, .inl (mixF (gA 2 ρ) (gA 2 σ) (c + 1))))] ++ (rowW cA q2 σ)) (by rw [mixF_s]) ?_
      refine r_iinc (v := nI (c + 1)) ([some (.ref (q 0)), some (.ref (q2 0)), some (.int (nI (c + 1)))]) dX1_copyOf_138 rfl (nI_1 _) (Nat.le_of_ble_eq_true rfl) rfl rfl ?_
      refine r_goto 96 dX1_copyOf_141 (by decide) ?_
      exact ih (c + 1) (by omega) (by omega)

set_option maxRecDepth 100000 in
set_option maxHeartbeats 4000000 in
theorem lp_X1_copyOf (l : Launch) (D : va_G) (cA cB : ClassId) (q q2 : Nat → Nat) (ρ σ : Nat → Int32) (X : Cx) (sz : Nat) : ∀ (f c : Nat), c ≤ 64 → 64 < c + f → G l X ({ frames := 0, cells := 0, slots := 0, locals := 0 } : Room) cX1_copyOf RX1 none D (tyS cA cB) (va_A (rowW cA q ρ ++ (rowW cA q2 σ)) sz) (QX X D (tyS cA cB) (rowW cA q ρ ++ (rowW cA q2 σ)) sz Unit (fun v _ => v = none) (fun _ => rowW cA q σ ++ (rowW cA q2 σ)) 0 0) 0 0 ([(q 0, .inr (1, [.int (σ 0), .int (σ 1), .int (σ 2), .int (σ 3), .int (σ 4), .int (σ 5), .int (σ 6), .ref (q 1), .ref (q 2), .ref (q 3), .ref (q 4), .ref (q 5)])), (q 1, .inl (cA, 64, .inl (mixF (kA ρ) (kA σ) c))), (q 2, .inl (cA, 64, .inl (mixF (vA ρ) (vA σ) c))), (q 3, .inl (cA, 8, .inl (gA 0 ρ))), (q 4, .inl (cA, 8, .inl (gA 1 ρ))), (q 5, .inl (cA, 8, .inl (gA 2 ρ)))] ++ (rowW cA q2 σ)) 58 ([some (.ref (q 0)), some (.ref (q2 0)), some (.int (nI c))]) [] := by
  intro f
  induction f with
  | zero => intro c h1 h2; omega
  | succ f ih =>
    intro c hc hf
    refine r_iload_n 2 dX1_copyOf_58 rfl rfl ?_
    refine r_bipush (nI 64) dX1_copyOf_59 (by decide +kernel) ?_
    refine r_ncmp_ge 94 (by omega) (by omega) dX1_copyOf_61 (by decide) (fun h1 => ?_) (fun h1 => ?_)
    · refine r_iconst (nI 0) dX1_copyOf_94 (by decide +kernel) ?_
      refine r_istore_n 2 ([some (.ref (q 0)), some (.ref (q2 0)), some (.int (nI 0))]) dX1_copyOf_95 rfl (Nat.le_of_ble_eq_true rfl) rfl rfl ?_
      refine r_ws (ws' := [(q 0, .inr (1, [.int (σ 0), .int (σ 1), .int (σ 2), .int (σ 3), .int (σ 4), .int (σ 5), .int (σ 6), .ref (q 1), .ref (q 2), .ref (q 3), .ref (q 4), .ref (q 5)])), (q 1, .inl (cA, 64, .inl (kA σ))), (q 2, .inl (cA, 64, .inl (vA σ))), (q 3, .inl (cA, 8, .inl (mixF (gA 0 ρ) (gA 0 σ) 0))), (q 4, .inl (cA, 8, .inl (mixF (gA 1 ρ) (gA 1 σ) 0))), (q 5, .inl (cA, 8, .inl (mixF (gA 2 ρ) (gA 2 σ) 0)))] ++ (rowW cA q2 σ)) (by rw [show c = 64 by omega, mix_k, mix_v, mixF_0, mixF_0, mixF_0]) ?_
      exact lp_X1_copyOf2 l D cA cB q q2 ρ σ X sz 9 0 (by omega) (by omega)
    · refine r_aload_n 0 dX1_copyOf_64 rfl rfl ?_
      refine r_get 0 fk_X1_15 dX1_copyOf_65 rfl rfl ?_
      refine r_iload_n 2 dX1_copyOf_68 rfl rfl ?_
      refine r_aload_n 1 dX1_copyOf_69 rfl rfl ?_
      refine r_get 6 fk_X1_15 dX1_copyOf_70 rfl rfl ?_
      refine r_iload_n 2 dX1_copyOf_73 rfl rfl ?_
      refine r_iald 7 (c) dX1_copyOf_74 rfl rfl rfl (by omega) (Nat.le_of_ble_eq_true rfl) ?_
      refine r_iast 1 (c) ([(q 0, .inr (1, [.int (σ 0), .int (σ 1), .int (σ 2), .int (σ 3), .int (σ 4), .int (σ 5), .int (σ 6), .ref (q 1), .ref (q 2), .ref (q 3), .ref (q 4), .ref (q 5)])), (q 1, .inl (cA, 64, .inl (upd (mixF (kA ρ) (kA σ) c) c ((kA σ) c)))), (q 2, .inl (cA, 64, .inl (mixF (vA ρ) (vA σ) c))), (q 3, .inl (cA, 8, .inl (gA 0 ρ))), (q 4, .inl (cA, 8, .inl (gA 1 ρ))), (q 5, .inl (cA, 8, .inl (gA 2 ρ)))] ++ (rowW cA q2 σ)) dX1_copyOf_75 rfl rfl rfl (by omega) (Nat.le_of_ble_eq_true rfl) rfl ?_
      refine r_ws (ws' := [(q 0, .inr (1, [.int (σ 0), .int (σ 1), .int (σ 2), .int (σ 3), .int (σ 4), .int (σ 5), .int (σ 6), .ref (q 1), .ref (q 2), .ref (q 3), .ref (q 4), .ref (q 5)])), (q 1, .inl (cA, 64, .inl (mixF (kA ρ) (kA σ) (c + 1)))), (q 2, .inl (cA, 64, .inl (mixF (vA ρ) (vA σ) c))), (q 3, .inl (cA, 8, .inl (gA 0 ρ))), (q 4, .inl (cA, 8, .inl (gA 1 ρ))), (q 5, .inl (cA, 8, .inl (gA 2 ρ)))] ++ (rowW cA q2 σ)) (by rw [mixF_s]) ?_
      refine r_aload_n 0 dX1_copyOf_76 rfl rfl ?_
      refine r_get 0 fk_X1_19 dX1_copyOf_77 rfl rfl ?_
      refine r_iload_n 2 dX1_copyOf_80 rfl rfl ?_
      refine r_aload_n 1 dX1_copyOf_81 rfl rfl ?_
      refine r_get 6 fk_X1_19 dX1_copyOf_82 rfl rfl ?_
      refine r_iload_n 2 dX1_copyOf_85 rfl rfl ?_
      refine r_iald 8 (c) dX1_copyOf_86 rfl rfl rfl (by omega) (Nat.le_of_ble_eq_true rfl) ?_
      refine r_iast 2 (c) ([(q 0, .inr (1, [.int (σ 0), .int (σ 1), .int (σ 2), .int (σ 3), .int (σ 4), .int (σ 5), .int (σ 6), .ref (q 1), .ref (q 2), .ref (q 3), .ref (q 4), .ref (q 5)])), (q 1, .inl (cA, 64, .inl (mixF (kA ρ) (kA σ) (c + 1)))), (q 2, .inl (cA, 64, .inl (upd (mixF (vA ρ) (vA σ) c) c ((vA σ) c)))), (q 3, .inl (cA, 8, .inl (gA 0 ρ))), (q 4, .inl (cA, 8, .inl (gA 1 ρ))), (q 5, .inl (cA, 8, .inl (gA 2 ρ)))] ++ (rowW cA q2 σ)) dX1_copyOf_87 rfl rfl rfl (by omega) (Nat.le_of_ble_eq_true rfl) rfl ?_
      refine r_ws (ws' := [(q 0, .inr (1, [.int (σ 0), .int (σ 1), .int (σ 2), .int (σ 3), .int (σ 4), .int (σ 5), .int (σ 6), .ref (q 1), .ref (q 2), .ref (q 3), .ref (q 4), .ref (q 5)])), (q 1, .inl (cA, 64, .inl (mixF (kA ρ) (kA σ) (c + 1)))), (q 2, .inl (cA, 64, .inl (mixF (vA ρ) (vA σ) (c + 1)))), (q 3, .inl (cA, 8, .inl (gA 0 ρ))), (q 4, .inl (cA, 8, .inl (gA 1 ρ))), (q 5, .inl (cA, 8, .inl (gA 2 ρ)))] ++ (rowW cA q2 σ)) (by rw [mixF_s]) ?_
      refine r_iinc (v := nI (c + 1)) ([some (.ref (q 0)), some (.ref (q2 0)), some (.int (nI (c + 1)))]) dX1_copyOf_88 rfl (nI_1 _) (Nat.le_of_ble_eq_true rfl) rfl rfl ?_
      refine r_goto 58 dX1_copyOf_91 (by decide) ?_
      exact ih (c + 1) (by omega) (by omega)

set_option maxRecDepth 100000 in
set_option maxHeartbeats 4000000 in
theorem c_X1_copyOf (l : Launch) (D : va_G) (cA cB : ClassId) (q q2 : Nat → Nat) (ρ σ : Nat → Int32) : Mt l D (tyS cA cB) yX1_copyOf cX1_copyOf 3 none ({ frames := 0, cells := 0, slots := 0, locals := 0 } : Room) [.ref (q 0), .ref (q2 0)] (rowW cA q ρ ++ (rowW cA q2 σ)) Unit (fun v _ => v = none) (fun _ => rowW cA q σ ++ (rowW cA q2 σ)) 0 0 := by
  refine mt_in RX1 ([some (.ref (q 0)), some (.ref (q2 0)), none]) rfl (by decide +kernel) rfl (Nat.le_of_ble_eq_true rfl) rfl rfl (fun X sz => ?_)
  refine r_aload_n 0 dX1_copyOf_0 rfl rfl ?_
  refine r_aload_n 1 dX1_copyOf_1 rfl rfl ?_
  refine r_get 6 fk_X1_9 dX1_copyOf_2 rfl rfl ?_
  refine r_put 0 ([(q 0, .inr (1, [.int (σ 0), .int (ρ 1), .int (ρ 2), .int (ρ 3), .int (ρ 4), .int (ρ 5), .int (ρ 6), .ref (q 1), .ref (q 2), .ref (q 3), .ref (q 4), .ref (q 5)])), (q 1, .inl (cA, 64, .inl (kA ρ))), (q 2, .inl (cA, 64, .inl (vA ρ))), (q 3, .inl (cA, 8, .inl (gA 0 ρ))), (q 4, .inl (cA, 8, .inl (gA 1 ρ))), (q 5, .inl (cA, 8, .inl (gA 2 ρ)))] ++ (rowW cA q2 σ)) fk_X1_9 dX1_copyOf_5 rfl rfl rfl rfl (Nat.le_of_ble_eq_true rfl) rfl ?_
  refine r_aload_n 0 dX1_copyOf_8 rfl rfl ?_
  refine r_aload_n 1 dX1_copyOf_9 rfl rfl ?_
  refine r_get 6 fk_X1_31 dX1_copyOf_10 rfl rfl ?_
  refine r_put 0 ([(q 0, .inr (1, [.int (σ 0), .int (σ 1), .int (ρ 2), .int (ρ 3), .int (ρ 4), .int (ρ 5), .int (ρ 6), .ref (q 1), .ref (q 2), .ref (q 3), .ref (q 4), .ref (q 5)])), (q 1, .inl (cA, 64, .inl (kA ρ))), (q 2, .inl (cA, 64, .inl (vA ρ))), (q 3, .inl (cA, 8, .inl (gA 0 ρ))), (q 4, .inl (cA, 8, .inl (gA 1 ρ))), (q 5, .inl (cA, 8, .inl (gA 2 ρ)))] ++ (rowW cA q2 σ)) fk_X1_31 dX1_copyOf_13 rfl rfl rfl rfl (Nat.le_of_ble_eq_true rfl) rfl ?_
  refine r_aload_n 0 dX1_copyOf_16 rfl rfl ?_
  refine r_aload_n 1 dX1_copyOf_17 rfl rfl ?_
  refine r_get 6 fk_X1_34 dX1_copyOf_18 rfl rfl ?_
  refine r_put 0 ([(q 0, .inr (1, [.int (σ 0), .int (σ 1), .int (σ 2), .int (ρ 3), .int (ρ 4), .int (ρ 5), .int (ρ 6), .ref (q 1), .ref (q 2), .ref (q 3), .ref (q 4), .ref (q 5)])), (q 1, .inl (cA, 64, .inl (kA ρ))), (q 2, .inl (cA, 64, .inl (vA ρ))), (q 3, .inl (cA, 8, .inl (gA 0 ρ))), (q 4, .inl (cA, 8, .inl (gA 1 ρ))), (q 5, .inl (cA, 8, .inl (gA 2 ρ)))] ++ (rowW cA q2 σ)) fk_X1_34 dX1_copyOf_21 rfl rfl rfl rfl (Nat.le_of_ble_eq_true rfl) rfl ?_
  refine r_aload_n 0 dX1_copyOf_24 rfl rfl ?_
  refine r_aload_n 1 dX1_copyOf_25 rfl rfl ?_
  refine r_get 6 fk_X1_37 dX1_copyOf_26 rfl rfl ?_
  refine r_put 0 ([(q 0, .inr (1, [.int (σ 0), .int (σ 1), .int (σ 2), .int (σ 3), .int (ρ 4), .int (ρ 5), .int (ρ 6), .ref (q 1), .ref (q 2), .ref (q 3), .ref (q 4), .ref (q 5)])), (q 1, .inl (cA, 64, .inl (kA ρ))), (q 2, .inl (cA, 64, .inl (vA ρ))), (q 3, .inl (cA, 8, .inl (gA 0 ρ))), (q 4, .inl (cA, 8, .inl (gA 1 ρ))), (q 5, .inl (cA, 8, .inl (gA 2 ρ)))] ++ (rowW cA q2 σ)) fk_X1_37 dX1_copyOf_29 rfl rfl rfl rfl (Nat.le_of_ble_eq_true rfl) rfl ?_
  refine r_aload_n 0 dX1_copyOf_32 rfl rfl ?_
  refine r_aload_n 1 dX1_copyOf_33 rfl rfl ?_
  refine r_get 6 fk_X1_40 dX1_copyOf_34 rfl rfl ?_
  refine r_put 0 ([(q 0, .inr (1, [.int (σ 0), .int (σ 1), .int (σ 2), .int (σ 3), .int (σ 4), .int (ρ 5), .int (ρ 6), .ref (q 1), .ref (q 2), .ref (q 3), .ref (q 4), .ref (q 5)])), (q 1, .inl (cA, 64, .inl (kA ρ))), (q 2, .inl (cA, 64, .inl (vA ρ))), (q 3, .inl (cA, 8, .inl (gA 0 ρ))), (q 4, .inl (cA, 8, .inl (gA 1 ρ))), (q 5, .inl (cA, 8, .inl (gA 2 ρ)))] ++ (rowW cA q2 σ)) fk_X1_40 dX1_copyOf_37 rfl rfl rfl rfl (Nat.le_of_ble_eq_true rfl) rfl ?_
  refine r_aload_n 0 dX1_copyOf_40 rfl rfl ?_
  refine r_aload_n 1 dX1_copyOf_41 rfl rfl ?_
  refine r_get 6 fk_X1_43 dX1_copyOf_42 rfl rfl ?_
  refine r_put 0 ([(q 0, .inr (1, [.int (σ 0), .int (σ 1), .int (σ 2), .int (σ 3), .int (σ 4), .int (σ 5), .int (ρ 6), .ref (q 1), .ref (q 2), .ref (q 3), .ref (q 4), .ref (q 5)])), (q 1, .inl (cA, 64, .inl (kA ρ))), (q 2, .inl (cA, 64, .inl (vA ρ))), (q 3, .inl (cA, 8, .inl (gA 0 ρ))), (q 4, .inl (cA, 8, .inl (gA 1 ρ))), (q 5, .inl (cA, 8, .inl (gA 2 ρ)))] ++ (rowW cA q2 σ)) fk_X1_43 dX1_copyOf_45 rfl rfl rfl rfl (Nat.le_of_ble_eq_true rfl) rfl ?_
  refine r_aload_n 0 dX1_copyOf_48 rfl rfl ?_
  refine r_aload_n 1 dX1_copyOf_49 rfl rfl ?_
  refine r_get 6 fk_X1_46 dX1_copyOf_50 rfl rfl ?_
  refine r_put 0 ([(q 0, .inr (1, [.int (σ 0), .int (σ 1), .int (σ 2), .int (σ 3), .int (σ 4), .int (σ 5), .int (σ 6), .ref (q 1), .ref (q 2), .ref (q 3), .ref (q 4), .ref (q 5)])), (q 1, .inl (cA, 64, .inl (kA ρ))), (q 2, .inl (cA, 64, .inl (vA ρ))), (q 3, .inl (cA, 8, .inl (gA 0 ρ))), (q 4, .inl (cA, 8, .inl (gA 1 ρ))), (q 5, .inl (cA, 8, .inl (gA 2 ρ)))] ++ (rowW cA q2 σ)) fk_X1_46 dX1_copyOf_53 rfl rfl rfl rfl (Nat.le_of_ble_eq_true rfl) rfl ?_
  refine r_iconst (nI 0) dX1_copyOf_56 (by decide +kernel) ?_
  refine r_istore_n 2 ([some (.ref (q 0)), some (.ref (q2 0)), some (.int (nI 0))]) dX1_copyOf_57 rfl (Nat.le_of_ble_eq_true rfl) rfl rfl ?_
  refine r_ws (ws' := [(q 0, .inr (1, [.int (σ 0), .int (σ 1), .int (σ 2), .int (σ 3), .int (σ 4), .int (σ 5), .int (σ 6), .ref (q 1), .ref (q 2), .ref (q 3), .ref (q 4), .ref (q 5)])), (q 1, .inl (cA, 64, .inl (mixF (kA ρ) (kA σ) 0))), (q 2, .inl (cA, 64, .inl (mixF (vA ρ) (vA σ) 0))), (q 3, .inl (cA, 8, .inl (gA 0 ρ))), (q 4, .inl (cA, 8, .inl (gA 1 ρ))), (q 5, .inl (cA, 8, .inl (gA 2 ρ)))] ++ (rowW cA q2 σ)) (by rw [mixF_0, mixF_0]) ?_
  exact lp_X1_copyOf l D cA cB q q2 ρ σ X sz 65 0 (by omega) (by omega)
end
section
section GD
variable {l : Launch} {X : Cx} {R : Room} {cc : ByteArray} {own : String} {ret : Option FieldType} {D : va_G} {tys : List (ClassId × FieldType)} {A : Nat → Prop} {Q : State → Prop} {k n : Nat} {ws : va_W} {pc : Nat} {lv : Lv} {st : List Value}
/-- a local's value is forgotten -/
theorem r_drop {lv' : Lv} (i : Nat) (h : lv.set i none = lv') (kk : G l X R cc own ret D tys A Q k n ws pc lv' st) : G l X R cc own ret D tys A Q k n ws pc lv st := by
  obtain ⟨p, e, s, m, args, below, meth, c⟩ := X
  intro F H locs ls hP hD hS hl
  have e1 : lv'.length = lv.length := by rw [← h, List.length_set]
  refine kk (by rw [e1]; exact F) H locs ls hP hD hS ⟨hl.1.trans e1.symm, hl.2.1, fun j v hj => hl.2.2 j v ?_⟩
  rw [← h] at hj
  by_cases e : i = j
  · subst e
    by_cases hi : i < lv.length
    · rw [List.getElem?_set_self hi] at hj; cases hj
    · rw [List.getElem?_eq_none (by rw [List.length_set]; omega)] at hj; cases hj
  · rw [List.getElem?_set_ne e] at hj; exact hj
end GD
abbrev spW (cA : ClassId) (p : Nat → Nat) (K V C : Nat → Int32) (h w : Int32) : va_W := [(p 0, .inr (2, [.ref (p 1), .ref (p 2), .ref (p 3), .int h, .int w])), (p 1, .inl (cA, 64, .inl K)), (p 2, .inl (cA, 64, .inl V)), (p 3, .inl (cA, 64, .inl C))]
abbrev Sp5 : Type := (Nat → Int32) × (Nat → Int32) × (Nat → Int32) × Int32 × Int32
abbrev spU (cA : ClassId) (p : Nat → Nat) (u : Sp5) : va_W := spW cA p u.1 u.2.1 u.2.2.1 u.2.2.2.1 u.2.2.2.2
def pz (ρ : Nat → Int32) (a n h : Nat) (w : Int32) : Nat → Nat := posF a n h (lnB ρ w) w
def Zr : Nat → Int32 := fun _ => 0
theorem tkG_c {ρ val f f' : Nat → Int32} {a : Nat} : ∀ {n j : Nat}, j < cnt ρ a n → tkG ρ val a f n j = tkG ρ val a f' n j
  | 0, _, h => absurd h (Nat.not_lt_zero _)
  | n + 1, j, h => by
    by_cases e : ρ (31 + (a + n)) = -1
    · rw [tkG_s0 e, tkG_s0 e]; rw [cnt_s0 e] at h; exact tkG_c h
    · rw [tkG_s1 e, tkG_s1 e]
      rw [cnt_s1 e] at h
      by_cases e2 : j = cnt ρ a n
      · rw [e2, upd_s, upd_s]
      · rw [upd_n _ _ e2, upd_n _ _ e2]; exact tkG_c (by omega)
theorem layF_c {ρ K V K' V' : Nat → Int32} {pos : Nat → Nat} : ∀ {h : Nat}, (∀ j, j < h → K j = K' j) → (∀ j, j < h → V j = V' j) → layF ρ K V pos h = layF ρ K' V' pos h
  | 0, _, _ => rfl
  | h + 1, h1, h2 => by
    show upd (upd _ _ _) _ _ = upd (upd _ _ _) _ _
    rw [layF_c (fun j hj => h1 j (by omega)) (fun j hj => h2 j (by omega)), h1 h (by omega), h2 h (by omega)]
theorem mvF_c {C C' : Nat → Int32} {pos : Nat → Nat} : ∀ {h : Nat}, (∀ j, j < h → C j = C' j) → mvF C pos h = mvF C' pos h
  | 0, _ => rfl
  | h + 1, h1 => by
    show mvF C pos h + _ = mvF C' pos h + _
    rw [mvF_c (fun j hj => h1 j (by omega)), h1 h (by omega)]
theorem layAll_c {ρ K V C K' V' C' : Nat → Int32} {h : Nat} {w : Int32} {a n g : Nat} (h1 : ∀ j, j < h → K j = K' j) (h2 : ∀ j, j < h → V j = V' j) (h3 : ∀ j, j < h → C j = C' j) : layAll ρ K V C h w a n g = layAll ρ K' V' C' h w a n g := by
  unfold layAll
  rw [layF_c h1 h2, mvF_c h3]
theorem mvAll_c {ρ C C' : Nat → Int32} {h : Nat} {w : Int32} {a n : Nat} (h3 : ∀ j, j < h → C j = C' j) : mvAll ρ C h w a n = mvAll ρ C' h w a n := mvF_c h3
/-- a window is spaced with none that comes -/
def spR (ρ : Nat → Int32) (g a n : Nat) : Nat → Int32 := layAll (clr ρ a n) (tkG ρ (kv ρ) a Zr n) (tkG ρ (vv ρ) a Zr n) (tkG ρ nI a Zr n) (cnt ρ a n) (-1) a n g
def spM (ρ : Nat → Int32) (a n : Nat) : Nat := mvAll (clr ρ a n) (tkG ρ nI a Zr n) (cnt ρ a n) (-1) a n
theorem spR_c {ρ fk fv fc : Nat → Int32} {g a n : Nat} : layAll (clr ρ a n) (tkG ρ (kv ρ) a fk n) (tkG ρ (vv ρ) a fv n) (tkG ρ nI a fc n) (cnt ρ a n) (-1) a n g = spR ρ g a n := layAll_c (fun j hj => tkG_c hj) (fun j hj => tkG_c hj) (fun j hj => tkG_c hj)
theorem spM_c {ρ fc : Nat → Int32} {a n : Nat} : mvAll (clr ρ a n) (tkG ρ nI a fc n) (cnt ρ a n) (-1) a n = spM ρ a n := mvAll_c (fun j hj => tkG_c hj)
/-- the row all of which is too thin: half of it, if it can -/
def shR (ρ : Nat → Int32) (g n : Nat) : Nat → Int32 := if 16 < n then layAll (upd (upd (clr ρ 0 n) 0 (nI (n / 2))) 5 (ρ 5 + 1)) (tkG ρ (kv ρ) 0 Zr n) (tkG ρ (vv ρ) 0 Zr n) (tkG ρ nI 0 Zr n) (cnt ρ 0 n) (-1) 0 (n / 2) g else spR ρ g 0 n
theorem insP_c {f f' : Nat → Int32} {k : Int32} : ∀ {h : Nat}, (∀ j, j < h → f j = f' j) → insP f k h = insP f' k h
  | 0, _ => rfl
  | h + 1, h1 => by
    unfold insP
    rw [h1 h (by omega), insP_c (fun j hj => h1 j (by omega))]
theorem insA_c {f f' : Nat → Int32} {p h : Nat} {x : Int32} (h1 : ∀ j, j < h → f j = f' j) {j : Nat} (hp : p ≤ h) (hj : j < h + 1) : insA f p h x j = insA f' p h x j := by
  unfold insA
  by_cases e : j = p
  · rw [if_pos e, if_pos e]
  · rw [if_neg e, if_neg e]
    by_cases e2 : p < j ∧ j ≤ h
    · rw [if_pos e2, if_pos e2]; exact h1 _ (by omega)
    · rw [if_neg e2, if_neg e2]; exact h1 _ (by omega)
/-- a key comes into a window of n cells from a (ρ0: the row it is laid into, n0 cells from a) -/
def inR (ρ ρ0 : Nat → Int32) (g a n n0 : Nat) (k v : Int32) : Nat → Int32 := layAll ρ0 (insA (tkG ρ (kv ρ) a Zr n) (insP (tkG ρ (kv ρ) a Zr n) k (cnt ρ a n)) (cnt ρ a n) k) (insA (tkG ρ (vv ρ) a Zr n) (insP (tkG ρ (kv ρ) a Zr n) k (cnt ρ a n)) (cnt ρ a n) v) (insA (tkG ρ nI a Zr n) (insP (tkG ρ (kv ρ) a Zr n) k (cnt ρ a n)) (cnt ρ a n) (-1)) (cnt ρ a n + 1) (nI (insP (tkG ρ (kv ρ) a Zr n) k (cnt ρ a n))) a n0 g
def inM (ρ ρ0 : Nat → Int32) (a n n0 : Nat) (k : Int32) : Nat := mvAll ρ0 (insA (tkG ρ nI a Zr n) (insP (tkG ρ (kv ρ) a Zr n) k (cnt ρ a n)) (cnt ρ a n) (-1)) (cnt ρ a n + 1) (nI (insP (tkG ρ (kv ρ) a Zr n) k (cnt ρ a n))) a n0
theorem inR_c {ρ ρ0 fk fv fc : Nat → Int32} {g a n n0 : Nat} {k v : Int32} : layAll ρ0 (insA (tkG ρ (kv ρ) a fk n) (insP (tkG ρ (kv ρ) a fk n) k (cnt ρ a n)) (cnt ρ a n) k) (insA (tkG ρ (vv ρ) a fv n) (insP (tkG ρ (kv ρ) a fk n) k (cnt ρ a n)) (cnt ρ a n) v) (insA (tkG ρ nI a fc n) (insP (tkG ρ (kv ρ) a fk n) k (cnt ρ a n)) (cnt ρ a n) (-1)) (cnt ρ a n + 1) (nI (insP (tkG ρ (kv ρ) a fk n) k (cnt ρ a n))) a n0 g = inR ρ ρ0 g a n n0 k v := by
  unfold inR
  rw [insP_c (f := tkG ρ (kv ρ) a fk n) (f' := tkG ρ (kv ρ) a Zr n) (fun j hj => tkG_c hj)]
  exact layAll_c (fun j hj => insA_c (fun j hj => tkG_c hj) (insP_le _ _ _) hj) (fun j hj => insA_c (fun j hj => tkG_c hj) (insP_le _ _ _) hj) (fun j hj => insA_c (fun j hj => tkG_c hj) (insP_le _ _ _) hj)
theorem inM_c {ρ ρ0 fk fc : Nat → Int32} {a n n0 : Nat} {k : Int32} : mvAll ρ0 (insA (tkG ρ nI a fc n) (insP (tkG ρ (kv ρ) a fk n) k (cnt ρ a n)) (cnt ρ a n) (-1)) (cnt ρ a n + 1) (nI (insP (tkG ρ (kv ρ) a fk n) k (cnt ρ a n))) a n0 = inM ρ ρ0 a n n0 k := by
  unfold inM
  rw [insP_c (f := tkG ρ (kv ρ) a fk n) (f' := tkG ρ (kv ρ) a Zr n) (fun j hj => tkG_c hj)]
  exact mvAll_c (fun j hj => insA_c (fun j hj => tkG_c hj) (insP_le _ _ _) hj)
/-- a key comes: the row, and how many moved -/
def dbl (ρ : Nat → Int32) (n : Nat) : Nat → Int32 := upd (upd (clr ρ 0 n) 0 (nI (2 * n))) 4 (ρ 4 + 1)
def comeR (ρ : Nat → Int32) (n g : Nat) (k v : Int32) : Nat → Int32 := match lvF ρ n (segF ρ k n) (topN n + 1) 0 with
  | some i => inR ρ (clr ρ (wst (segF ρ k n) i) (4 * 2 ^ i)) g (wst (segF ρ k n) i) (4 * 2 ^ i) (4 * 2 ^ i) k v
  | none => inR ρ (dbl ρ n) g 0 n (2 * n) k v
def comeM (ρ : Nat → Int32) (n : Nat) (k : Int32) : Nat := match lvF ρ n (segF ρ k n) (topN n + 1) 0 with
  | some i => inM ρ (clr ρ (wst (segF ρ k n) i) (4 * 2 ^ i)) (wst (segF ρ k n) i) (4 * 2 ^ i) (4 * 2 ^ i) k
  | none => inM ρ (dbl ρ n) 0 n (2 * n) k
theorem lvF_some {ρ : Nat → Int32} {n sg i : Nat} : ∀ {f j : Nat}, lvF ρ n sg f j = some i → j ≤ i ∧ i < j + f ∧ cnt ρ (wst sg i) (4 * 2 ^ i) + 1 ≤ mostN n i
  | 0, _, h => by cases h
  | f + 1, j, h => by
    unfold lvF at h
    split at h
    · next e => cases h; exact ⟨Nat.le_refl _, by omega, e⟩
    · have := lvF_some h; exact ⟨by omega, by omega, this.2.2⟩
/-- a key goes: the least window that is not too thin, the levels from i on -/
def gvF (ρ : Nat → Int32) (n sg : Nat) : Nat → Nat → Option Nat
  | 0, _ => none
  | f + 1, i => if leastN n i ≤ cnt ρ (wst sg i) (4 * 2 ^ i) then some i else gvF ρ n sg f (i + 1)
def emp (ρ : Nat → Int32) (c : Nat) : Nat → Int32 := upd (upd ρ (31 + c) (-1)) (95 + c) 0
def goR (ρ : Nat → Int32) (n g c : Nat) : Nat → Int32 := if leastN n 0 ≤ cnt (emp ρ c) (wst (c / 4) 0) 4 then emp ρ c else match gvF (emp ρ c) n (c / 4) (topN n) 1 with
  | some i => spR (emp ρ c) g (wst (c / 4) i) (4 * 2 ^ i)
  | none => shR (emp ρ c) g n
theorem gvF_none {ρ : Nat → Int32} {n sg : Nat} : ∀ {f j : Nat}, gvF ρ n sg f j = none → ∀ i, j ≤ i → i < j + f → cnt ρ (wst sg i) (4 * 2 ^ i) < leastN n i
  | 0, _, _, i, h1, h2 => absurd h1 (by omega)
  | f + 1, j, h, i, h1, h2 => by
    unfold gvF at h
    split at h
    · cases h
    · next e =>
      rcases Nat.lt_or_ge j i with h3 | h3
      · exact gvF_none h i (by omega) (by omega)
      · rw [show i = j by omega]; omega
/-- the top window is the whole row -/
theorem top_pow {n : Nat} (h3 : n = 16 ∨ n = 32 ∨ n = 64) : 4 * 2 ^ topN n = n := by rcases h3 with rfl | rfl | rfl <;> decide
theorem wst_top {n sg : Nat} (h3 : n = 16 ∨ n = 32 ∨ n = 64) (hs : sg * 4 < n) : wst sg (topN n) = 0 := by
  have h := wst_le h3 hs (Nat.le_refl _)
  rw [top_pow h3] at h
  omega
theorem least_half {n : Nat} (h3 : n = 16 ∨ n = 32 ∨ n = 64) : leastN n (topN n) ≤ n / 2 := by rcases h3 with rfl | rfl | rfl <;> decide
end
section
set_option maxRecDepth 100000 in
set_option maxHeartbeats 4000000 in
theorem c_X2_windowStart (l : Launch) (D : va_G) (cA cB : ClassId) (sg i : Nat) (hs : sg < 16) (hi : i ≤ 4) : Mt l D (tyS cA cB) yX2_windowStart cX2_windowStart 2 (some .int) ({ frames := 1, cells := 0, slots := 0, locals := 20 } : Room) [.int (nI sg), .int (nI i)] ([]) Unit (fun v _ => v = some (.int (nI (wst sg i)))) (fun _ => []) 0 0 := by
  refine mt_in RX2 ([some (.int (nI sg)), some (.int (nI i))]) rfl (by decide +kernel) rfl (Nat.le_of_ble_eq_true rfl) rfl rfl (fun X sz => ?_)
  refine r_iload_n 0 dX2_windowStart_0 rfl rfl ?_
  refine r_iload_n 1 dX2_windowStart_1 rfl rfl ?_
  refine r_ishr dX2_windowStart_2 ?_
  refine r_top (shr_ok ⟨sg, hs⟩ ⟨i, by omega⟩) ?_
  refine r_iload_n 1 dX2_windowStart_3 rfl rfl ?_
  refine r_callS (As := [.int (nI i)]) (st := [.int (nI (sg / 2 ^ i))]) [] [] (fun _ => []) [] (c_X4_cellsOf l D cA cB (i) (by omega)) ks_X4_cellsOf ml_X2_49 dX2_windowStart_4 rfl rfl rfl rfl rfl rfl (by decide) (fun _ => rfl) rfl rfl (Nat.le_of_ble_eq_true rfl) (fun v u h => ?_)
  subst h
  refine r_st (st' := [.int (nI (4 * 2 ^ i)), .int (nI (sg / 2 ^ i))]) rfl ?_
  refine r_nimul dX2_windowStart_7 ?_
  exact r_iret () dX2_windowStart_8 (rfl) (rfl)

set_option maxRecDepth 100000 in
set_option maxHeartbeats 4000000 in
theorem c_X2_segmentFor (l : Launch) (D : va_G) (cA cB : ClassId) (q : Nat → Nat) (ρ : Nat → Int32) (n : Nat) (hsz : ρ 0 = nI n) (h3 : n = 16 ∨ n = 32 ∨ n = 64) (hs : Srt ρ n) (k : Int32) : Mt l D (tyS cA cB) yX2_segmentFor cX2_segmentFor 3 (some .int) ({ frames := 2, cells := 0, slots := 0, locals := 44 } : Room) [.ref (q 0), .int (k)] (rowW cA q ρ) Unit (fun v _ => v = some (.int (nI (segF ρ k n)))) (fun _ => rowW cA q ρ) 0 0 := by
  refine mt_in RX2 ([some (.ref (q 0)), some (.int (k)), none]) rfl (by decide +kernel) rfl (Nat.le_of_ble_eq_true rfl) rfl rfl (fun X sz => ?_)
  have hb : n ≤ 64 := by omega
  have y1 := blw_le ρ k n
  refine r_aload_n 0 dX2_segmentFor_0 rfl rfl ?_
  refine r_iload_n 1 dX2_segmentFor_1 rfl rfl ?_
  refine r_callV (As := [.int (k)]) (st := []) [0, 1, 2, 3, 4, 5] [] (fun _ => rowW cA q ρ) [0, 1, 2, 3, 4, 5] (c_X1_keysBelow l D cA cB q ρ n (hsz) h3 (k)) kv_X1_keysBelow ml_X2_34 dX2_segmentFor_2 rfl rfl rfl rfl rfl rfl rfl rfl (by decide) (fun _ => rfl) rfl rfl (Nat.le_of_ble_eq_true rfl) (fun v u h => ?_)
  subst h
  refine r_st (st' := [.int (nI (blw ρ k n))]) rfl ?_
  refine r_istore_n 2 ([some (.ref (q 0)), some (.int (k)), some (.int (nI (blw ρ k n)))]) dX2_segmentFor_5 rfl (Nat.le_of_ble_eq_true rfl) rfl rfl ?_
  refine r_iload_n 2 dX2_segmentFor_6 rfl rfl ?_
  rcases segF_rank hs (k := k) (Nat.le_refl n) with ⟨e1, e2⟩ | ⟨c, hc, hk, hl, e1, e2⟩
  · refine r_if_ne 14 dX2_segmentFor_7 (by decide) (fun h1 => ?_) (fun h1 => ?_)
    · exact absurd (by rw [e1]; rfl) h1
    · refine r_iconst (nI 0) dX2_segmentFor_10 (by decide +kernel) ?_
      refine r_goto 23 dX2_segmentFor_11 (by decide) ?_
      exact r_iret () dX2_segmentFor_23 (by rw [e2]) (rfl)
  · refine r_if_ne 14 dX2_segmentFor_7 (by decide) (fun h2 => ?_) (fun h2 => ?_)
    · refine r_aload_n 0 dX2_segmentFor_14 rfl rfl ?_
      refine r_iload_n 2 dX2_segmentFor_15 rfl rfl ?_
      refine r_iconst (nI 1) dX2_segmentFor_16 (by decide +kernel) ?_
      refine r_nisub (by omega) dX2_segmentFor_17 ?_
      refine r_callV (As := [.int (nI ((blw ρ k n) - 1))]) (st := []) [0, 1, 2, 3, 4, 5] [] (fun _ => rowW cA q ρ) [0, 1, 2, 3, 4, 5] (c_X1_cellNumber l D cA cB q ρ n (hsz) h3 ((blw ρ k n) - 1) (by omega)) kv_X1_cellNumber ml_X2_38 dX2_segmentFor_18 rfl rfl rfl rfl rfl rfl rfl rfl (by decide) (fun _ => rfl) rfl rfl (Nat.le_of_ble_eq_true rfl) (fun v u h => ?_)
      subst h
      refine r_st (st' := [.int (nthF ρ ((blw ρ k n) - 1) n)]) rfl ?_
      refine r_top (nthF_at hk (by omega) hc) ?_
      refine r_iconst (nI 4) dX2_segmentFor_21 (by decide +kernel) ?_
      refine r_nidiv (by omega) (by omega) (by omega) dX2_segmentFor_22 ?_
      exact r_iret () dX2_segmentFor_23 (by rw [e2]) (rfl)
    · exact absurd ((nI_inj (b := 0) (by omega) (by decide)).mp h2) (by omega)

set_option maxRecDepth 100000 in
set_option maxHeartbeats 4000000 in
theorem lp_X2_levelFor (l : Launch) (D : va_G) (cA cB : ClassId) (q : Nat → Nat) (ρ : Nat → Int32) (n : Nat) (hsz : ρ 0 = nI n) (h3 : n = 16 ∨ n = 32 ∨ n = 64) (sg : Nat) (hg : sg * 4 < n) (X : Cx) (sz : Nat) : ∀ (f i : Nat), i ≤ topN n + 1 → topN n + 1 < i + f → lvF ρ n sg (topN n + 1 - i) i = lvF ρ n sg (topN n + 1) 0 → G l X ({ frames := 2, cells := 0, slots := 0, locals := 45 } : Room) cX2_levelFor RX2 (some .int) D (tyS cA cB) (va_A (rowW cA q ρ) sz) (QX X D (tyS cA cB) (rowW cA q ρ) sz Unit (fun v _ => v = some (.int (oI (lvF ρ n sg (topN n + 1) 0)))) (fun _ => rowW cA q ρ) 0 0) 0 0 (rowW cA q ρ) 2 ([some (.ref (q 0)), some (.int (nI sg)), some (.int (nI i))]) [] := by
  intro f
  induction f with
  | zero => intro i h1 h2; omega
  | succ f ih =>
    intro i hi hf he
    have hb : n ≤ 64 := by omega
    have ht := top_le (sz := n)
    refine r_iload_n 2 dX2_levelFor_2 rfl rfl ?_
    refine r_aload_n 0 dX2_levelFor_3 rfl rfl ?_
    refine r_callV (As := []) (st := [.int (nI i)]) [0, 1, 2, 3, 4, 5] [] (fun _ => rowW cA q ρ) [0, 1, 2, 3, 4, 5] (c_X1_top l D cA cB q ρ n (hsz) h3 ) kv_X1_top ml_X2_41 dX2_levelFor_4 rfl rfl rfl rfl rfl rfl rfl rfl (by decide) (fun _ => rfl) rfl rfl (Nat.le_of_ble_eq_true rfl) (fun v u h => ?_)
    subst h
    refine r_st (st' := [.int (nI (topN n)), .int (nI i)]) rfl ?_
    refine r_ncmp_gt 41 (by omega) (by omega) dX2_levelFor_7 (by decide) (fun h1 => ?_) (fun h1 => ?_)
    · refine r_iconst (-1) dX2_levelFor_41 (by decide +kernel) ?_
      exact r_iret () dX2_levelFor_42 (by rw [← he, show topN n + 1 - i = 0 by omega]; rfl) (rfl)
    · have hw := wst_le h3 hg (show i ≤ topN n by omega)
      have hp := pow4 i (by omega)
      have hy := cnt_le ρ (wst sg i) (4 * 2 ^ i)
      have hm := most_le (n := n) (i := i)
      refine r_aload_n 0 dX2_levelFor_10 rfl rfl ?_
      refine r_iload_n 1 dX2_levelFor_11 rfl rfl ?_
      refine r_iload_n 2 dX2_levelFor_12 rfl rfl ?_
      refine r_callS (As := [.int (nI sg), .int (nI i)]) (st := [.ref (q 0)]) [] [0, 1, 2, 3, 4, 5] (fun _ => rowW cA q ρ) [0, 1, 2, 3, 4, 5] (c_X2_windowStart l D cA cB (sg) (i) (by omega) (by omega)) ks_X2_windowStart ml_X2_45 dX2_levelFor_13 rfl rfl rfl rfl rfl rfl (by decide) (fun _ => rfl) rfl rfl (Nat.le_of_ble_eq_true rfl) (fun v u h => ?_)
      subst h
      refine r_st (st' := [.int (nI (wst sg i)), .ref (q 0)]) rfl ?_
      refine r_iload_n 2 dX2_levelFor_16 rfl rfl ?_
      refine r_callS (As := [.int (nI i)]) (st := [.int (nI (wst sg i)), .ref (q 0)]) [] [0, 1, 2, 3, 4, 5] (fun _ => rowW cA q ρ) [0, 1, 2, 3, 4, 5] (c_X4_cellsOf l D cA cB (i) (by omega)) ks_X4_cellsOf ml_X2_49 dX2_levelFor_17 rfl rfl rfl rfl rfl rfl (by decide) (fun _ => rfl) rfl rfl (Nat.le_of_ble_eq_true rfl) (fun v u h => ?_)
      subst h
      refine r_st (st' := [.int (nI (4 * 2 ^ i)), .int (nI (wst sg i)), .ref (q 0)]) rfl ?_
      refine r_callV (As := [.int (nI (wst sg i)), .int (nI (4 * 2 ^ i))]) (st := []) [0, 1, 2, 3, 4, 5] [] (fun _ => rowW cA q ρ) [0, 1, 2, 3, 4, 5] (c_X1_keysIn l D cA cB q ρ (wst sg i) (4 * 2 ^ i) (by omega)) kv_X1_keysIn ml_X2_52 dX2_levelFor_20 rfl rfl rfl rfl rfl rfl rfl rfl (by decide) (fun _ => rfl) rfl rfl (Nat.le_of_ble_eq_true rfl) (fun v u h => ?_)
      subst h
      refine r_st (st' := [.int (nI (cnt ρ (wst sg i) (4 * 2 ^ i)))]) rfl ?_
      refine r_iconst (nI 1) dX2_levelFor_23 (by decide +kernel) ?_
      refine r_niadd dX2_levelFor_24 ?_
      refine r_aload_n 0 dX2_levelFor_25 rfl rfl ?_
      refine r_iload_n 2 dX2_levelFor_26 rfl rfl ?_
      refine r_callV (As := [.int (nI i)]) (st := [.int (nI ((cnt ρ (wst sg i) (4 * 2 ^ i)) + 1))]) [0, 1, 2, 3, 4, 5] [] (fun _ => rowW cA q ρ) [0, 1, 2, 3, 4, 5] (c_X1_most l D cA cB q ρ n (hsz) h3 (i) (by omega)) kv_X1_most ml_X2_55 dX2_levelFor_27 rfl rfl rfl rfl rfl rfl rfl rfl (by decide) (fun _ => rfl) rfl rfl (Nat.le_of_ble_eq_true rfl) (fun v u h => ?_)
      subst h
      refine r_st (st' := [.int (nI (mostN n i)), .int (nI ((cnt ρ (wst sg i) (4 * 2 ^ i)) + 1))]) rfl ?_
      refine r_ncmp_gt 35 (by omega) (by omega) dX2_levelFor_30 (by decide) (fun h2 => ?_) (fun h2 => ?_)
      · refine r_iinc (v := nI (i + 1)) ([some (.ref (q 0)), some (.int (nI sg)), some (.int (nI (i + 1)))]) dX2_levelFor_35 rfl (nI_1 _) (Nat.le_of_ble_eq_true rfl) rfl rfl ?_
        refine r_goto 2 dX2_levelFor_38 (by decide) ?_
        exact ih (i + 1) (by omega) (by omega) (by rw [← he, show topN n + 1 - i = (topN n - i) + 1 by omega, show topN n + 1 - (i + 1) = topN n - i by omega]; exact (if_neg (Nat.not_le.mpr h2)).symm)
      · refine r_iload_n 2 dX2_levelFor_33 rfl rfl ?_
        exact r_iret () dX2_levelFor_34 (by rw [← he, show topN n + 1 - i = (topN n - i) + 1 by omega]; show _ = some (Value.int (oI (if _ then _ else _))); rw [if_pos h2]; rfl) (rfl)

set_option maxRecDepth 100000 in
set_option maxHeartbeats 4000000 in
theorem c_X2_levelFor (l : Launch) (D : va_G) (cA cB : ClassId) (q : Nat → Nat) (ρ : Nat → Int32) (n : Nat) (hsz : ρ 0 = nI n) (h3 : n = 16 ∨ n = 32 ∨ n = 64) (sg : Nat) (hg : sg * 4 < n) : Mt l D (tyS cA cB) yX2_levelFor cX2_levelFor 3 (some .int) ({ frames := 2, cells := 0, slots := 0, locals := 45 } : Room) [.ref (q 0), .int (nI sg)] (rowW cA q ρ) Unit (fun v _ => v = some (.int (oI (lvF ρ n sg (topN n + 1) 0)))) (fun _ => rowW cA q ρ) 0 0 := by
  refine mt_in RX2 ([some (.ref (q 0)), some (.int (nI sg)), none]) rfl (by decide +kernel) rfl (Nat.le_of_ble_eq_true rfl) rfl rfl (fun X sz => ?_)
  refine r_iconst (nI 0) dX2_levelFor_0 (by decide +kernel) ?_
  refine r_istore_n 2 ([some (.ref (q 0)), some (.int (nI sg)), some (.int (nI 0))]) dX2_levelFor_1 rfl (Nat.le_of_ble_eq_true rfl) rfl rfl ?_
  exact lp_X2_levelFor l D cA cB q ρ n hsz h3 sg hg X sz (topN n + 2) 0 (by omega) (by omega) rfl

def hrB (ρ : Nat → Int32) (n : Nat) (k : Int32) : Bool := decide (n < 64) || (lvF ρ n (segF ρ k n) (topN n + 1) 0).isSome
theorem oI_none {ρ : Nat → Int32} {n sg : Nat} (h : oI (lvF ρ n sg (topN n + 1) 0) = -1) : lvF ρ n sg (topN n + 1) 0 = none := by
  cases e : lvF ρ n sg (topN n + 1) 0 with
  | none => rfl
  | some i =>
    rw [e] at h
    have h2 := lvF_some e
    have := top_le (sz := n)
    exact absurd h (nI_ne_m1 (by omega))
set_option maxRecDepth 100000 in
set_option maxHeartbeats 4000000 in
theorem c_X2_hasRoom (l : Launch) (D : va_G) (cA cB : ClassId) (q : Nat → Nat) (ρ : Nat → Int32) (n : Nat) (hsz : ρ 0 = nI n) (h3 : n = 16 ∨ n = 32 ∨ n = 64) (hs : Srt ρ n) (k : Int32) : Mt l D (tyS cA cB) yX2_hasRoom cX2_hasRoom 2 (some .boolean) ({ frames := 3, cells := 0, slots := 0, locals := 67 } : Room) [.ref (q 0), .int (k)] (rowW cA q ρ) Unit (fun v _ => v = some (.int (bI (hrB ρ n k)))) (fun _ => rowW cA q ρ) 0 0 := by
  refine mt_in RX2 ([some (.ref (q 0)), some (.int (k))]) rfl (by decide +kernel) rfl (Nat.le_of_ble_eq_true rfl) rfl rfl (fun X sz => ?_)
  have hb : n ≤ 64 := by omega
  refine r_aload_n 0 dX2_hasRoom_0 rfl rfl ?_
  refine r_get 0 fk_X2_21 dX2_hasRoom_1 rfl rfl ?_
  refine r_top (y := nI (n)) (hsz) ?_
  refine r_bipush (nI 64) dX2_hasRoom_4 (by decide +kernel) ?_
  refine r_ncmp_lt 22 (by omega) (by omega) dX2_hasRoom_6 (by decide) (fun h1 => ?_) (fun h1 => ?_)
  · refine r_iconst (nI 1) dX2_hasRoom_22 (by decide +kernel) ?_
    refine r_goto 27 dX2_hasRoom_23 (by decide) ?_
    exact r_zret () (by decide +kernel) dX2_hasRoom_27 (by unfold hrB; rw [decide_eq_true h1]; rfl) (rfl)
  · refine r_aload_n 0 dX2_hasRoom_9 rfl rfl ?_
    refine r_aload_n 0 dX2_hasRoom_10 rfl rfl ?_
    refine r_iload_n 1 dX2_hasRoom_11 rfl rfl ?_
    refine r_callS (As := [.ref (q 0), .int (k)]) (st := [.ref (q 0)]) [0, 1, 2, 3, 4, 5] [] (fun _ => rowW cA q ρ) [0, 1, 2, 3, 4, 5] (c_X2_segmentFor l D cA cB q ρ n (hsz) h3 hs (k)) ks_X2_segmentFor ml_X2_27 dX2_hasRoom_12 rfl rfl rfl rfl rfl rfl (by decide) (fun _ => rfl) rfl rfl (Nat.le_of_ble_eq_true rfl) (fun v u h => ?_)
    subst h
    refine r_st (st' := [.int (nI (segF ρ k n)), .ref (q 0)]) rfl ?_
    refine r_callS (As := [.ref (q 0), .int (nI (segF ρ k n))]) (st := []) [0, 1, 2, 3, 4, 5] [] (fun _ => rowW cA q ρ) [0, 1, 2, 3, 4, 5] (c_X2_levelFor l D cA cB q ρ n (hsz) h3 (segF ρ k n) (segF_le ρ k n (by omega))) ks_X2_levelFor ml_X2_31 dX2_hasRoom_15 rfl rfl rfl rfl rfl rfl (by decide) (fun _ => rfl) rfl rfl (Nat.le_of_ble_eq_true rfl) (fun v u h => ?_)
    subst h
    refine r_st (st' := [.int (oI (lvF ρ n (segF ρ k n) (topN n + 1) 0))]) rfl ?_
    refine r_iconst (-1) dX2_hasRoom_18 (by decide +kernel) ?_
    refine r_icmp_eq 26 dX2_hasRoom_19 (by decide) (fun h2 => ?_) (fun h2 => ?_)
    · refine r_iconst (nI 0) dX2_hasRoom_26 (by decide +kernel) ?_
      exact r_zret () (by decide +kernel) dX2_hasRoom_27 (by unfold hrB; rw [decide_eq_false (Nat.not_lt.mpr h1), oI_none h2]; rfl) (rfl)
    · refine r_iconst (nI 1) dX2_hasRoom_22 (by decide +kernel) ?_
      refine r_goto 27 dX2_hasRoom_23 (by decide) ?_
      exact r_zret () (by decide +kernel) dX2_hasRoom_27 (by unfold hrB; cases e : lvF ρ n (segF ρ k n) (topN n + 1) 0 with | none => exact absurd (by rw [e]; rfl) h2 | some i => simp [bI]; rfl) (rfl)

set_option maxRecDepth 100000 in
set_option maxHeartbeats 4000000 in
theorem lp_X2_takeUp (l : Launch) (D : va_G) (cA cB : ClassId) (p q : Nat → Nat) (ρ K V C : Nat → Int32) (h0 w0 : Int32) (a n : Nat) (hn : a + n ≤ 64) (X : Cx) (sz : Nat) : ∀ (f i c x : Nat), c = a + i → x = cnt ρ a i → i ≤ n → n < i + f → G l X ({ frames := 1, cells := 0, slots := 0, locals := 23 } : Room) cX2_takeUp RX2 none D (tyS cA cB) (va_A (spW cA p K V C (h0) (w0) ++ (rowW cA q ρ)) sz) (QX X D (tyS cA cB) (spW cA p K V C (h0) (w0) ++ (rowW cA q ρ)) sz Unit (fun v _ => v = none) (fun _ => spW cA p (tkG ρ (kv ρ) a K n) (tkG ρ (vv ρ) a V n) (tkG ρ nI a C n) (nI (cnt ρ a n)) (-1) ++ (rowW cA q (clr ρ a n))) 0 0) 0 0 (spW cA p (tkG ρ (kv ρ) a K i) (tkG ρ (vv ρ) a V i) (tkG ρ nI a C i) (nI (x)) (-1) ++ (rowW cA q (clr ρ a i))) 13 ([some (.ref (p 0)), some (.ref (q 0)), some (.int (nI a)), some (.int (nI n)), some (.int (nI c))]) [] := by
  intro f
  induction f with
  | zero => intro i c x _ _ h1 h2; omega
  | succ f ih =>
    intro i c x hc hx hi hf
    have hy := cnt_le ρ a i
    refine r_iload dX2_takeUp_13 rfl ?_
    refine r_iload_n 2 dX2_takeUp_15 rfl rfl ?_
    refine r_iload_n 3 dX2_takeUp_16 rfl rfl ?_
    refine r_niadd dX2_takeUp_17 ?_
    refine r_ncmp_ge 105 (by omega) (by omega) dX2_takeUp_18 (by decide) (fun h1 => ?_) (fun h1 => ?_)
    · exact r_vret () dX2_takeUp_105 (rfl) (by rw [hx, show i = n by omega])
    · refine r_aload_n 0 dX2_takeUp_21 rfl rfl ?_
      refine r_get 0 fk_X2_98 dX2_takeUp_22 rfl rfl ?_
      refine r_bipush (nI 64) dX2_takeUp_25 (by decide +kernel) ?_
      refine r_ncmp_ge 105 (by omega) (by omega) dX2_takeUp_27 (by decide) (fun h2 => ?_) (fun h2 => ?_)
      · omega
      · refine r_aload_n 1 dX2_takeUp_30 rfl rfl ?_
        refine r_iload dX2_takeUp_31 rfl ?_
        refine r_callV (As := [.int (nI c)]) (st := []) [4, 5, 6, 7, 8, 9] [0, 1, 2, 3] (fun _ => spW cA p (tkG ρ (kv ρ) a K i) (tkG ρ (vv ρ) a V i) (tkG ρ nI a C i) (nI (x)) (-1) ++ (rowW cA q (clr ρ a i))) [0, 1, 2, 3, 4, 5, 6, 7, 8, 9] (c_X1_keyIn l D cA cB q (clr ρ a i) (c) (by omega)) kv_X1_keyIn ml_X2_104 dX2_takeUp_33 rfl rfl rfl rfl rfl rfl rfl rfl (by decide) (fun _ => rfl) rfl rfl (Nat.le_of_ble_eq_true rfl) (fun v u h => ?_)
        subst h
        refine r_st (st' := [.int ((clr ρ a i) (31 + c))]) rfl ?_
        refine r_top (y := ρ (31 + c)) (clr_k (by omega) (by omega)) ?_
        refine r_iconst (-1) dX2_takeUp_36 (by decide +kernel) ?_
        refine r_icmp_eq 99 dX2_takeUp_37 (by decide) (fun h3 => ?_) (fun h3 => ?_)
        · refine r_iinc (v := nI (c + 1)) ([some (.ref (p 0)), some (.ref (q 0)), some (.int (nI a)), some (.int (nI n)), some (.int (nI (c + 1)))]) dX2_takeUp_99 rfl (nI_1 _) (Nat.le_of_ble_eq_true rfl) rfl rfl ?_
          refine r_goto 13 dX2_takeUp_102 (by decide) ?_
          refine r_ws (ws' := spW cA p (tkG ρ (kv ρ) a K (i + 1)) (tkG ρ (vv ρ) a V (i + 1)) (tkG ρ nI a C (i + 1)) (nI (x)) (-1) ++ (rowW cA q (clr ρ a (i + 1)))) (by subst hc; rw [tkG_s0 h3, tkG_s0 h3, tkG_s0 h3, clr_s0 h3]) ?_
          exact ih (i + 1) _ _ (by omega) (by rw [hx, cnt_s0 (by rw [← hc]; exact h3)]) (by omega) (by omega)
        · refine r_aload_n 0 dX2_takeUp_40 rfl rfl ?_
          refine r_get 0 fk_X2_9 dX2_takeUp_41 rfl rfl ?_
          refine r_aload_n 0 dX2_takeUp_44 rfl rfl ?_
          refine r_get 0 fk_X2_98 dX2_takeUp_45 rfl rfl ?_
          refine r_aload_n 1 dX2_takeUp_48 rfl rfl ?_
          refine r_iload dX2_takeUp_49 rfl ?_
          refine r_callV (As := [.int (nI c)]) (st := [.int (nI x), .ref (p 1)]) [4, 5, 6, 7, 8, 9] [0, 1, 2, 3] (fun _ => spW cA p (tkG ρ (kv ρ) a K i) (tkG ρ (vv ρ) a V i) (tkG ρ nI a C i) (nI (x)) (-1) ++ (rowW cA q (clr ρ a i))) [0, 1, 2, 3, 4, 5, 6, 7, 8, 9] (c_X1_keyIn l D cA cB q (clr ρ a i) (c) (by omega)) kv_X1_keyIn ml_X2_104 dX2_takeUp_51 rfl rfl rfl rfl rfl rfl rfl rfl (by decide) (fun _ => rfl) rfl rfl (Nat.le_of_ble_eq_true rfl) (fun v u h => ?_)
          subst h
          refine r_st (st' := [.int ((clr ρ a i) (31 + c)), .int (nI x), .ref (p 1)]) rfl ?_
          refine r_top (y := ρ (31 + c)) (clr_k (by omega) (by omega)) ?_
          refine r_iast 1 (x) ([(p 0, .inr (2, [.ref (p 1), .ref (p 2), .ref (p 3), .int (nI x), .int (-1)])), (p 1, .inl (cA, 64, .inl (upd (tkG ρ (kv ρ) a K i) x (ρ (31 + c))))), (p 2, .inl (cA, 64, .inl (tkG ρ (vv ρ) a V i))), (p 3, .inl (cA, 64, .inl (tkG ρ nI a C i)))] ++ (rowW cA q (clr ρ a i))) dX2_takeUp_54 rfl rfl rfl (by omega) (Nat.le_of_ble_eq_true rfl) rfl ?_
          refine r_aload_n 0 dX2_takeUp_55 rfl rfl ?_
          refine r_get 0 fk_X2_15 dX2_takeUp_56 rfl rfl ?_
          refine r_aload_n 0 dX2_takeUp_59 rfl rfl ?_
          refine r_get 0 fk_X2_98 dX2_takeUp_60 rfl rfl ?_
          refine r_aload_n 1 dX2_takeUp_63 rfl rfl ?_
          refine r_iload dX2_takeUp_64 rfl ?_
          refine r_callV (As := [.int (nI c)]) (st := [.int (nI x), .ref (p 2)]) [4, 5, 6, 7, 8, 9] [0, 1, 2, 3] (fun _ => [(p 0, .inr (2, [.ref (p 1), .ref (p 2), .ref (p 3), .int (nI x), .int (-1)])), (p 1, .inl (cA, 64, .inl (upd (tkG ρ (kv ρ) a K i) x (ρ (31 + c))))), (p 2, .inl (cA, 64, .inl (tkG ρ (vv ρ) a V i))), (p 3, .inl (cA, 64, .inl (tkG ρ nI a C i)))] ++ (rowW cA q (clr ρ a i))) [0, 1, 2, 3, 4, 5, 6, 7, 8, 9] (c_X1_valueIn l D cA cB q (clr ρ a i) (c) (by omega)) kv_X1_valueIn ml_X2_78 dX2_takeUp_66 rfl rfl rfl rfl rfl rfl rfl rfl (by decide) (fun _ => rfl) rfl rfl (Nat.le_of_ble_eq_true rfl) (fun v u h => ?_)
          subst h
          refine r_st (st' := [.int ((clr ρ a i) (95 + c)), .int (nI x), .ref (p 2)]) rfl ?_
          refine r_top (y := ρ (95 + c)) (clr_v (by omega)) ?_
          refine r_iast 2 (x) ([(p 0, .inr (2, [.ref (p 1), .ref (p 2), .ref (p 3), .int (nI x), .int (-1)])), (p 1, .inl (cA, 64, .inl (upd (tkG ρ (kv ρ) a K i) x (ρ (31 + c))))), (p 2, .inl (cA, 64, .inl (upd (tkG ρ (vv ρ) a V i) x (ρ (95 + c))))), (p 3, .inl (cA, 64, .inl (tkG ρ nI a C i)))] ++ (rowW cA q (clr ρ a i))) dX2_takeUp_69 rfl rfl rfl (by omega) (Nat.le_of_ble_eq_true rfl) rfl ?_
          refine r_aload_n 0 dX2_takeUp_70 rfl rfl ?_
          refine r_get 0 fk_X2_18 dX2_takeUp_71 rfl rfl ?_
          refine r_aload_n 0 dX2_takeUp_74 rfl rfl ?_
          refine r_get 0 fk_X2_98 dX2_takeUp_75 rfl rfl ?_
          refine r_iload dX2_takeUp_78 rfl ?_
          refine r_iast 3 (x) ([(p 0, .inr (2, [.ref (p 1), .ref (p 2), .ref (p 3), .int (nI x), .int (-1)])), (p 1, .inl (cA, 64, .inl (upd (tkG ρ (kv ρ) a K i) x (ρ (31 + c))))), (p 2, .inl (cA, 64, .inl (upd (tkG ρ (vv ρ) a V i) x (ρ (95 + c))))), (p 3, .inl (cA, 64, .inl (upd (tkG ρ nI a C i) x (nI (c)))))] ++ (rowW cA q (clr ρ a i))) dX2_takeUp_80 rfl rfl rfl (by omega) (Nat.le_of_ble_eq_true rfl) rfl ?_
          refine r_aload_n 0 dX2_takeUp_81 rfl rfl ?_
          refine r_dup rfl dX2_takeUp_82 ?_
          refine r_get 0 fk_X2_98 dX2_takeUp_83 rfl rfl ?_
          refine r_iconst (nI 1) dX2_takeUp_86 (by decide +kernel) ?_
          refine r_niadd dX2_takeUp_87 ?_
          refine r_put 0 ([(p 0, .inr (2, [.ref (p 1), .ref (p 2), .ref (p 3), .int (nI (x + 1)), .int (-1)])), (p 1, .inl (cA, 64, .inl (upd (tkG ρ (kv ρ) a K i) x (ρ (31 + c))))), (p 2, .inl (cA, 64, .inl (upd (tkG ρ (vv ρ) a V i) x (ρ (95 + c))))), (p 3, .inl (cA, 64, .inl (upd (tkG ρ nI a C i) x (nI (c)))))] ++ (rowW cA q (clr ρ a i))) fk_X2_98 dX2_takeUp_88 rfl rfl rfl rfl (Nat.le_of_ble_eq_true rfl) rfl ?_
          refine r_aload_n 1 dX2_takeUp_91 rfl rfl ?_
          refine r_iload dX2_takeUp_92 rfl ?_
          refine r_iconst (-1) dX2_takeUp_94 (by decide +kernel) ?_
          refine r_iconst (nI 0) dX2_takeUp_95 (by decide +kernel) ?_
          refine r_callV (As := [.int (nI c), .int (-1), .int (nI 0)]) (st := []) [4, 5, 6, 7, 8, 9] [0, 1, 2, 3] (fun _ => [(p 0, .inr (2, [.ref (p 1), .ref (p 2), .ref (p 3), .int (nI (x + 1)), .int (-1)])), (p 1, .inl (cA, 64, .inl (upd (tkG ρ (kv ρ) a K i) x (ρ (31 + c))))), (p 2, .inl (cA, 64, .inl (upd (tkG ρ (vv ρ) a V i) x (ρ (95 + c))))), (p 3, .inl (cA, 64, .inl (upd (tkG ρ nI a C i) x (nI (c)))))] ++ (rowW cA q (upd (upd (clr ρ a i) (31 + c) (-1)) (95 + c) (nI (0))))) [0, 1, 2, 3, 4, 5, 6, 7, 8, 9] (c_X1_fill l D cA cB q (clr ρ a i) (c) (by omega) (-1) (nI (0))) kv_X1_fill ml_X2_81 dX2_takeUp_96 rfl rfl rfl rfl rfl rfl rfl rfl (by decide) (fun _ => rfl) rfl rfl (Nat.le_of_ble_eq_true rfl) (fun v u h => ?_)
          subst h
          refine r_st (st' := []) rfl ?_
          refine r_iinc (v := nI (c + 1)) ([some (.ref (p 0)), some (.ref (q 0)), some (.int (nI a)), some (.int (nI n)), some (.int (nI (c + 1)))]) dX2_takeUp_99 rfl (nI_1 _) (Nat.le_of_ble_eq_true rfl) rfl rfl ?_
          refine r_goto 13 dX2_takeUp_102 (by decide) ?_
          refine r_ws (ws' := spW cA p (tkG ρ (kv ρ) a K (i + 1)) (tkG ρ (vv ρ) a V (i + 1)) (tkG ρ nI a C (i + 1)) (nI (x + 1)) (-1) ++ (rowW cA q (clr ρ a (i + 1)))) (by subst hc; subst hx; rw [tkG_s1 h3, tkG_s1 h3, tkG_s1 h3, clr_s1 h3]; rfl) ?_
          exact ih (i + 1) _ _ (by omega) (by rw [hx, cnt_s1 (by rw [← hc]; exact h3)]) (by omega) (by omega)

set_option maxRecDepth 100000 in
set_option maxHeartbeats 4000000 in
theorem c_X2_takeUp (l : Launch) (D : va_G) (cA cB : ClassId) (p q : Nat → Nat) (ρ K V C : Nat → Int32) (h0 w0 : Int32) (a n : Nat) (hn : a + n ≤ 64) : Mt l D (tyS cA cB) yX2_takeUp cX2_takeUp 5 none ({ frames := 1, cells := 0, slots := 0, locals := 23 } : Room) [.ref (p 0), .ref (q 0), .int (nI a), .int (nI n)] (spW cA p K V C (h0) (w0) ++ (rowW cA q ρ)) Unit (fun v _ => v = none) (fun _ => spW cA p (tkG ρ (kv ρ) a K n) (tkG ρ (vv ρ) a V n) (tkG ρ nI a C n) (nI (cnt ρ a n)) (-1) ++ (rowW cA q (clr ρ a n))) 0 0 := by
  refine mt_in RX2 ([some (.ref (p 0)), some (.ref (q 0)), some (.int (nI a)), some (.int (nI n)), none]) rfl (by decide +kernel) rfl (Nat.le_of_ble_eq_true rfl) rfl rfl (fun X sz => ?_)
  refine r_aload_n 0 dX2_takeUp_0 rfl rfl ?_
  refine r_iconst (nI 0) dX2_takeUp_1 (by decide +kernel) ?_
  refine r_put 0 ([(p 0, .inr (2, [.ref (p 1), .ref (p 2), .ref (p 3), .int (nI 0), .int (w0)])), (p 1, .inl (cA, 64, .inl (K))), (p 2, .inl (cA, 64, .inl (V))), (p 3, .inl (cA, 64, .inl (C)))] ++ (rowW cA q ρ)) fk_X2_98 dX2_takeUp_2 rfl rfl rfl rfl (Nat.le_of_ble_eq_true rfl) rfl ?_
  refine r_aload_n 0 dX2_takeUp_5 rfl rfl ?_
  refine r_iconst (-1) dX2_takeUp_6 (by decide +kernel) ?_
  refine r_put 0 ([(p 0, .inr (2, [.ref (p 1), .ref (p 2), .ref (p 3), .int (nI 0), .int (-1)])), (p 1, .inl (cA, 64, .inl (K))), (p 2, .inl (cA, 64, .inl (V))), (p 3, .inl (cA, 64, .inl (C)))] ++ (rowW cA q ρ)) fk_X2_101 dX2_takeUp_7 rfl rfl rfl rfl (Nat.le_of_ble_eq_true rfl) rfl ?_
  refine r_iload_n 2 dX2_takeUp_10 rfl rfl ?_
  refine r_istore ([some (.ref (p 0)), some (.ref (q 0)), some (.int (nI a)), some (.int (nI n)), some (.int (nI a))]) dX2_takeUp_11 (Nat.le_of_ble_eq_true rfl) rfl rfl ?_
  refine r_ws (ws' := spW cA p (tkG ρ (kv ρ) a K 0) (tkG ρ (vv ρ) a V 0) (tkG ρ nI a C 0) (nI (0)) (-1) ++ (rowW cA q (clr ρ a 0))) rfl ?_
  exact lp_X2_takeUp l D cA cB p q ρ K V C h0 w0 a n hn X sz (n + 1) 0 a 0 rfl rfl (by omega) (by omega)

set_option maxRecDepth 100000 in
set_option maxHeartbeats 4000000 in
theorem lp_X2_takeIn (l : Launch) (D : va_G) (cA cB : ClassId) (p : Nat → Nat) (K V C : Nat → Int32) (h : Nat) (hh : h < 64) (w0 k v : Int32) (X : Cx) (sz : Nat) : ∀ (f j : Nat), j ≤ h → j < f → insP K k h = insP K k j → G l X ({ frames := 0, cells := 0, slots := 0, locals := 0 } : Room) cX2_takeIn RX2 none D (tyS cA cB) (va_A (spW cA p K V C (nI (h)) (w0)) sz) (QX X D (tyS cA cB) (spW cA p K V C (nI (h)) (w0)) sz Unit (fun v _ => v = none) (fun _ => spW cA p (insA K (insP K k h) h k) (insA V (insP K k h) h v) (insA C (insP K k h) h (-1)) (nI (h + 1)) (nI (insP K k h))) 0 0) 0 0 (spW cA p (shi K j h) (shi V j h) (shi C j h) (nI (h)) (w0)) 15 ([some (.ref (p 0)), some (.int (k)), some (.int (v)), some (.int (nI j))]) [] := by
  intro f
  induction f with
  | zero => intro j h1 h2; omega
  | succ f ih =>
    intro j hjh hf he
    refine r_iload_n 3 dX2_takeIn_15 rfl rfl ?_
    refine r_if_le 79 dX2_takeIn_16 (by decide) (fun h1 => ?_) (fun h1 => ?_)
    · have hj : insP K k h = j := by have z := (nI_le_iff (a := j) (b := 0) (by omega) (by decide)).mp h1; rw [he, show j = 0 by omega]; rfl
      refine r_aload_n 0 dX2_takeIn_79 rfl rfl ?_
      refine r_get 0 fk_X2_9 dX2_takeIn_80 rfl rfl ?_
      refine r_iload_n 3 dX2_takeIn_83 rfl rfl ?_
      refine r_iload_n 1 dX2_takeIn_84 rfl rfl ?_
      refine r_iast 1 (j) ([(p 0, .inr (2, [.ref (p 1), .ref (p 2), .ref (p 3), .int (nI h), .int (w0)])), (p 1, .inl (cA, 64, .inl (upd (shi K j h) j k))), (p 2, .inl (cA, 64, .inl (shi V j h))), (p 3, .inl (cA, 64, .inl (shi C j h)))]) dX2_takeIn_85 rfl rfl rfl (by omega) (Nat.le_of_ble_eq_true rfl) rfl ?_
      refine r_aload_n 0 dX2_takeIn_86 rfl rfl ?_
      refine r_get 0 fk_X2_15 dX2_takeIn_87 rfl rfl ?_
      refine r_iload_n 3 dX2_takeIn_90 rfl rfl ?_
      refine r_iload_n 2 dX2_takeIn_91 rfl rfl ?_
      refine r_iast 2 (j) ([(p 0, .inr (2, [.ref (p 1), .ref (p 2), .ref (p 3), .int (nI h), .int (w0)])), (p 1, .inl (cA, 64, .inl (upd (shi K j h) j k))), (p 2, .inl (cA, 64, .inl (upd (shi V j h) j v))), (p 3, .inl (cA, 64, .inl (shi C j h)))]) dX2_takeIn_92 rfl rfl rfl (by omega) (Nat.le_of_ble_eq_true rfl) rfl ?_
      refine r_aload_n 0 dX2_takeIn_93 rfl rfl ?_
      refine r_get 0 fk_X2_18 dX2_takeIn_94 rfl rfl ?_
      refine r_iload_n 3 dX2_takeIn_97 rfl rfl ?_
      refine r_iconst (-1) dX2_takeIn_98 (by decide +kernel) ?_
      refine r_iast 3 (j) ([(p 0, .inr (2, [.ref (p 1), .ref (p 2), .ref (p 3), .int (nI h), .int (w0)])), (p 1, .inl (cA, 64, .inl (upd (shi K j h) j k))), (p 2, .inl (cA, 64, .inl (upd (shi V j h) j v))), (p 3, .inl (cA, 64, .inl (upd (shi C j h) j (-1))))]) dX2_takeIn_99 rfl rfl rfl (by omega) (Nat.le_of_ble_eq_true rfl) rfl ?_
      refine r_aload_n 0 dX2_takeIn_100 rfl rfl ?_
      refine r_iload_n 3 dX2_takeIn_101 rfl rfl ?_
      refine r_put 0 ([(p 0, .inr (2, [.ref (p 1), .ref (p 2), .ref (p 3), .int (nI h), .int (nI j)])), (p 1, .inl (cA, 64, .inl (upd (shi K j h) j k))), (p 2, .inl (cA, 64, .inl (upd (shi V j h) j v))), (p 3, .inl (cA, 64, .inl (upd (shi C j h) j (-1))))]) fk_X2_101 dX2_takeIn_102 rfl rfl rfl rfl (Nat.le_of_ble_eq_true rfl) rfl ?_
      refine r_aload_n 0 dX2_takeIn_105 rfl rfl ?_
      refine r_dup rfl dX2_takeIn_106 ?_
      refine r_get 0 fk_X2_98 dX2_takeIn_107 rfl rfl ?_
      refine r_iconst (nI 1) dX2_takeIn_110 (by decide +kernel) ?_
      refine r_niadd dX2_takeIn_111 ?_
      refine r_put 0 ([(p 0, .inr (2, [.ref (p 1), .ref (p 2), .ref (p 3), .int (nI (h + 1)), .int (nI j)])), (p 1, .inl (cA, 64, .inl (upd (shi K j h) j k))), (p 2, .inl (cA, 64, .inl (upd (shi V j h) j v))), (p 3, .inl (cA, 64, .inl (upd (shi C j h) j (-1))))]) fk_X2_98 dX2_takeIn_112 rfl rfl rfl rfl (Nat.le_of_ble_eq_true rfl) rfl ?_
      exact r_vret () dX2_takeIn_115 (rfl) (by rw [hj]; rfl)
    · have hp0 : 0 < j := by rcases Nat.eq_zero_or_pos j with z | z; exact absurd (by rw [z]; exact Int32.le_refl _) h1; exact z
      refine r_aload_n 0 dX2_takeIn_19 rfl rfl ?_
      refine r_get 0 fk_X2_9 dX2_takeIn_20 rfl rfl ?_
      refine r_iload_n 3 dX2_takeIn_23 rfl rfl ?_
      refine r_iconst (nI 1) dX2_takeIn_24 (by decide +kernel) ?_
      refine r_nisub (by omega) dX2_takeIn_25 ?_
      refine r_iald 1 (j - 1) dX2_takeIn_26 rfl rfl rfl (by omega) (Nat.le_of_ble_eq_true rfl) ?_
      refine r_top (shi_lo hp0) ?_
      refine r_iload_n 1 dX2_takeIn_27 rfl rfl ?_
      refine r_icmp_le 79 dX2_takeIn_28 (by decide) (fun h2 => ?_) (fun h2 => ?_)
      · have hj : insP K k h = j := by rw [he]; obtain ⟨d, rfl⟩ : ∃ d, j = d + 1 := ⟨j - 1, by omega⟩; exact if_neg (Int32.not_lt.mpr h2)
        refine r_aload_n 0 dX2_takeIn_79 rfl rfl ?_
        refine r_get 0 fk_X2_9 dX2_takeIn_80 rfl rfl ?_
        refine r_iload_n 3 dX2_takeIn_83 rfl rfl ?_
        refine r_iload_n 1 dX2_takeIn_84 rfl rfl ?_
        refine r_iast 1 (j) ([(p 0, .inr (2, [.ref (p 1), .ref (p 2), .ref (p 3), .int (nI h), .int (w0)])), (p 1, .inl (cA, 64, .inl (upd (shi K j h) j k))), (p 2, .inl (cA, 64, .inl (shi V j h))), (p 3, .inl (cA, 64, .inl (shi C j h)))]) dX2_takeIn_85 rfl rfl rfl (by omega) (Nat.le_of_ble_eq_true rfl) rfl ?_
        refine r_aload_n 0 dX2_takeIn_86 rfl rfl ?_
        refine r_get 0 fk_X2_15 dX2_takeIn_87 rfl rfl ?_
        refine r_iload_n 3 dX2_takeIn_90 rfl rfl ?_
        refine r_iload_n 2 dX2_takeIn_91 rfl rfl ?_
        refine r_iast 2 (j) ([(p 0, .inr (2, [.ref (p 1), .ref (p 2), .ref (p 3), .int (nI h), .int (w0)])), (p 1, .inl (cA, 64, .inl (upd (shi K j h) j k))), (p 2, .inl (cA, 64, .inl (upd (shi V j h) j v))), (p 3, .inl (cA, 64, .inl (shi C j h)))]) dX2_takeIn_92 rfl rfl rfl (by omega) (Nat.le_of_ble_eq_true rfl) rfl ?_
        refine r_aload_n 0 dX2_takeIn_93 rfl rfl ?_
        refine r_get 0 fk_X2_18 dX2_takeIn_94 rfl rfl ?_
        refine r_iload_n 3 dX2_takeIn_97 rfl rfl ?_
        refine r_iconst (-1) dX2_takeIn_98 (by decide +kernel) ?_
        refine r_iast 3 (j) ([(p 0, .inr (2, [.ref (p 1), .ref (p 2), .ref (p 3), .int (nI h), .int (w0)])), (p 1, .inl (cA, 64, .inl (upd (shi K j h) j k))), (p 2, .inl (cA, 64, .inl (upd (shi V j h) j v))), (p 3, .inl (cA, 64, .inl (upd (shi C j h) j (-1))))]) dX2_takeIn_99 rfl rfl rfl (by omega) (Nat.le_of_ble_eq_true rfl) rfl ?_
        refine r_aload_n 0 dX2_takeIn_100 rfl rfl ?_
        refine r_iload_n 3 dX2_takeIn_101 rfl rfl ?_
        refine r_put 0 ([(p 0, .inr (2, [.ref (p 1), .ref (p 2), .ref (p 3), .int (nI h), .int (nI j)])), (p 1, .inl (cA, 64, .inl (upd (shi K j h) j k))), (p 2, .inl (cA, 64, .inl (upd (shi V j h) j v))), (p 3, .inl (cA, 64, .inl (upd (shi C j h) j (-1))))]) fk_X2_101 dX2_takeIn_102 rfl rfl rfl rfl (Nat.le_of_ble_eq_true rfl) rfl ?_
        refine r_aload_n 0 dX2_takeIn_105 rfl rfl ?_
        refine r_dup rfl dX2_takeIn_106 ?_
        refine r_get 0 fk_X2_98 dX2_takeIn_107 rfl rfl ?_
        refine r_iconst (nI 1) dX2_takeIn_110 (by decide +kernel) ?_
        refine r_niadd dX2_takeIn_111 ?_
        refine r_put 0 ([(p 0, .inr (2, [.ref (p 1), .ref (p 2), .ref (p 3), .int (nI (h + 1)), .int (nI j)])), (p 1, .inl (cA, 64, .inl (upd (shi K j h) j k))), (p 2, .inl (cA, 64, .inl (upd (shi V j h) j v))), (p 3, .inl (cA, 64, .inl (upd (shi C j h) j (-1))))]) fk_X2_98 dX2_takeIn_112 rfl rfl rfl rfl (Nat.le_of_ble_eq_true rfl) rfl ?_
        exact r_vret () dX2_takeIn_115 (rfl) (by rw [hj]; rfl)
      · refine r_aload_n 0 dX2_takeIn_31 rfl rfl ?_
        refine r_get 0 fk_X2_9 dX2_takeIn_32 rfl rfl ?_
        refine r_iload_n 3 dX2_takeIn_35 rfl rfl ?_
        refine r_aload_n 0 dX2_takeIn_36 rfl rfl ?_
        refine r_get 0 fk_X2_9 dX2_takeIn_37 rfl rfl ?_
        refine r_iload_n 3 dX2_takeIn_40 rfl rfl ?_
        refine r_iconst (nI 1) dX2_takeIn_41 (by decide +kernel) ?_
        refine r_nisub (by omega) dX2_takeIn_42 ?_
        refine r_iald 1 (j - 1) dX2_takeIn_43 rfl rfl rfl (by omega) (Nat.le_of_ble_eq_true rfl) ?_
        refine r_top (shi_lo hp0) ?_
        refine r_iast 1 (j) ([(p 0, .inr (2, [.ref (p 1), .ref (p 2), .ref (p 3), .int (nI h), .int (w0)])), (p 1, .inl (cA, 64, .inl (upd (shi K j h) j (K (j - 1))))), (p 2, .inl (cA, 64, .inl (shi V j h))), (p 3, .inl (cA, 64, .inl (shi C j h)))]) dX2_takeIn_44 rfl rfl rfl (by omega) (Nat.le_of_ble_eq_true rfl) rfl ?_
        refine r_ws (ws' := [(p 0, .inr (2, [.ref (p 1), .ref (p 2), .ref (p 3), .int (nI h), .int (w0)])), (p 1, .inl (cA, 64, .inl (shi K (j - 1) h))), (p 2, .inl (cA, 64, .inl (shi V j h))), (p 3, .inl (cA, 64, .inl (shi C j h)))]) (by rw [shi_step (by omega) (by omega)]) ?_
        refine r_aload_n 0 dX2_takeIn_45 rfl rfl ?_
        refine r_get 0 fk_X2_15 dX2_takeIn_46 rfl rfl ?_
        refine r_iload_n 3 dX2_takeIn_49 rfl rfl ?_
        refine r_aload_n 0 dX2_takeIn_50 rfl rfl ?_
        refine r_get 0 fk_X2_15 dX2_takeIn_51 rfl rfl ?_
        refine r_iload_n 3 dX2_takeIn_54 rfl rfl ?_
        refine r_iconst (nI 1) dX2_takeIn_55 (by decide +kernel) ?_
        refine r_nisub (by omega) dX2_takeIn_56 ?_
        refine r_iald 2 (j - 1) dX2_takeIn_57 rfl rfl rfl (by omega) (Nat.le_of_ble_eq_true rfl) ?_
        refine r_top (shi_lo hp0) ?_
        refine r_iast 2 (j) ([(p 0, .inr (2, [.ref (p 1), .ref (p 2), .ref (p 3), .int (nI h), .int (w0)])), (p 1, .inl (cA, 64, .inl (shi K (j - 1) h))), (p 2, .inl (cA, 64, .inl (upd (shi V j h) j (V (j - 1))))), (p 3, .inl (cA, 64, .inl (shi C j h)))]) dX2_takeIn_58 rfl rfl rfl (by omega) (Nat.le_of_ble_eq_true rfl) rfl ?_
        refine r_ws (ws' := [(p 0, .inr (2, [.ref (p 1), .ref (p 2), .ref (p 3), .int (nI h), .int (w0)])), (p 1, .inl (cA, 64, .inl (shi K (j - 1) h))), (p 2, .inl (cA, 64, .inl (shi V (j - 1) h))), (p 3, .inl (cA, 64, .inl (shi C j h)))]) (by rw [shi_step (by omega) (by omega)]) ?_
        refine r_aload_n 0 dX2_takeIn_59 rfl rfl ?_
        refine r_get 0 fk_X2_18 dX2_takeIn_60 rfl rfl ?_
        refine r_iload_n 3 dX2_takeIn_63 rfl rfl ?_
        refine r_aload_n 0 dX2_takeIn_64 rfl rfl ?_
        refine r_get 0 fk_X2_18 dX2_takeIn_65 rfl rfl ?_
        refine r_iload_n 3 dX2_takeIn_68 rfl rfl ?_
        refine r_iconst (nI 1) dX2_takeIn_69 (by decide +kernel) ?_
        refine r_nisub (by omega) dX2_takeIn_70 ?_
        refine r_iald 3 (j - 1) dX2_takeIn_71 rfl rfl rfl (by omega) (Nat.le_of_ble_eq_true rfl) ?_
        refine r_top (shi_lo hp0) ?_
        refine r_iast 3 (j) ([(p 0, .inr (2, [.ref (p 1), .ref (p 2), .ref (p 3), .int (nI h), .int (w0)])), (p 1, .inl (cA, 64, .inl (shi K (j - 1) h))), (p 2, .inl (cA, 64, .inl (shi V (j - 1) h))), (p 3, .inl (cA, 64, .inl (upd (shi C j h) j (C (j - 1)))))]) dX2_takeIn_72 rfl rfl rfl (by omega) (Nat.le_of_ble_eq_true rfl) rfl ?_
        refine r_ws (ws' := [(p 0, .inr (2, [.ref (p 1), .ref (p 2), .ref (p 3), .int (nI h), .int (w0)])), (p 1, .inl (cA, 64, .inl (shi K (j - 1) h))), (p 2, .inl (cA, 64, .inl (shi V (j - 1) h))), (p 3, .inl (cA, 64, .inl (shi C (j - 1) h)))]) (by rw [shi_step (by omega) (by omega)]) ?_
        refine r_iinc (v := nI (j - 1)) ([some (.ref (p 0)), some (.int (k)), some (.int (v)), some (.int (nI (j - 1)))]) dX2_takeIn_73 rfl (nI_m1 (by omega)) (Nat.le_of_ble_eq_true rfl) rfl rfl ?_
        refine r_goto 15 dX2_takeIn_76 (by decide) ?_
        refine r_ws (ws' := spW cA p (shi K (j - 1) h) (shi V (j - 1) h) (shi C (j - 1) h) (nI (h)) (w0)) rfl ?_
        exact ih _ (by omega) (by omega) (by rw [he]; obtain ⟨d, rfl⟩ : ∃ d, j = d + 1 := ⟨j - 1, by omega⟩; exact if_pos (Int32.not_le.mp h2))

set_option maxRecDepth 100000 in
set_option maxHeartbeats 4000000 in
theorem c_X2_takeIn (l : Launch) (D : va_G) (cA cB : ClassId) (p : Nat → Nat) (K V C : Nat → Int32) (h : Nat) (hh : h < 64) (w0 k v : Int32) : Mt l D (tyS cA cB) yX2_takeIn cX2_takeIn 4 none ({ frames := 0, cells := 0, slots := 0, locals := 0 } : Room) [.ref (p 0), .int (k), .int (v)] (spW cA p K V C (nI (h)) (w0)) Unit (fun v _ => v = none) (fun _ => spW cA p (insA K (insP K k h) h k) (insA V (insP K k h) h v) (insA C (insP K k h) h (-1)) (nI (h + 1)) (nI (insP K k h))) 0 0 := by
  refine mt_in RX2 ([some (.ref (p 0)), some (.int (k)), some (.int (v)), none]) rfl (by decide +kernel) rfl (Nat.le_of_ble_eq_true rfl) rfl rfl (fun X sz => ?_)
  refine r_aload_n 0 dX2_takeIn_0 rfl rfl ?_
  refine r_get 0 fk_X2_98 dX2_takeIn_1 rfl rfl ?_
  refine r_bipush (nI 64) dX2_takeIn_4 (by decide +kernel) ?_
  refine r_ncmp_lt 10 (by omega) (by omega) dX2_takeIn_6 (by decide) (fun h1 => ?_) (fun h1 => ?_)
  · refine r_aload_n 0 dX2_takeIn_10 rfl rfl ?_
    refine r_get 0 fk_X2_98 dX2_takeIn_11 rfl rfl ?_
    refine r_istore_n 3 ([some (.ref (p 0)), some (.int (k)), some (.int (v)), some (.int (nI h))]) dX2_takeIn_14 rfl (Nat.le_of_ble_eq_true rfl) rfl rfl ?_
    refine r_ws (ws' := spW cA p (shi K h h) (shi V h h) (shi C h h) (nI (h)) (w0)) (by rw [shi_h, shi_h, shi_h]) ?_
    exact lp_X2_takeIn l D cA cB p K V C h hh w0 k v X sz (h + 1) h (by omega) (by omega) rfl
  · omega

set_option maxRecDepth 100000 in
set_option maxHeartbeats 4000000 in
theorem lp_X2_layDown (l : Launch) (D : va_G) (cA cB : ClassId) (p q : Nat → Nat) (ρ K V C : Nat → Int32) (h : Nat) (w : Int32) (g a n : Nat) (hg : ρ 6 = nI g) (hg8 : g ≤ 8) (hn : a + n ≤ 64) (hh : h ≤ n) (X : Cx) (sz : Nat) : ∀ (gp : Nat), gp = (if lnB ρ w then (n - h) / 2 else 0) → ∀ (f j mv : Nat), mv = mvF C (pz ρ a n h w) j → j ≤ h → h < j + f → G l X ({ frames := 2, cells := 0, slots := 0, locals := 45 } : Room) cX2_layDown RX2 (some .int) D (tyS cA cB) (va_A (spW cA p K V C (nI (h)) (w) ++ (rowW cA q ρ)) sz) (QX X D (tyS cA cB) (spW cA p K V C (nI (h)) (w) ++ (rowW cA q ρ)) sz Unit (fun v _ => v = some (.int (nI (mvAll ρ C h w a n)))) (fun _ => spW cA p K V C (nI h) w ++ (rowW cA q (layAll ρ K V C h w a n g))) 0 0) 0 0 (spW cA p K V C (nI (h)) (w) ++ (rowW cA q (layF ρ K V (pz ρ a n h w) j))) 48 ([some (.ref (p 0)), some (.ref (q 0)), some (.int (nI a)), some (.int (nI n)), some (.int (bI (lnB ρ w))), some (.int (nI gp)), some (.int (nI mv)), some (.int (nI j)), none]) [] := by
  intro gp hgp f
  have hgn : gp ≤ n := by rw [hgp]; split <;> omega
  induction f with
  | zero => intro j mv _ h1 h2; omega
  | succ f ih =>
    intro j mv hmv hj hf
    have hmj := mvF_le C (pz ρ a n h w) j
    refine r_iload dX2_layDown_48 rfl ?_
    refine r_aload_n 0 dX2_layDown_50 rfl rfl ?_
    refine r_get 0 fk_X2_98 dX2_layDown_51 rfl rfl ?_
    refine r_ncmp_ge 142 (by omega) (by omega) dX2_layDown_54 (by decide) (fun h1 => ?_) (fun h1 => ?_)
    · refine r_aload_n 1 dX2_layDown_142 rfl rfl ?_
      refine r_iload_n 2 dX2_layDown_143 rfl rfl ?_
      refine r_iload_n 3 dX2_layDown_144 rfl rfl ?_
      refine r_iload dX2_layDown_145 rfl ?_
      refine r_callV (As := [.int (nI a), .int (nI n), .int (nI mv)]) (st := []) [4, 5, 6, 7, 8, 9] [0, 1, 2, 3] (fun _ => spW cA p K V C (nI (h)) (w) ++ (rowW cA q (noteF (layF ρ K V (pz ρ a n h w) j) g (nI (a)) (nI (n)) (nI (mv))))) [0, 1, 2, 3, 4, 5, 6, 7, 8, 9] (c_X1_note l D cA cB q (layF ρ K V (pz ρ a n h w) j) g (by rw [layF_low (by omega)]; exact hg) hg8 (nI (a)) (nI (n)) (nI (mv))) kv_X1_note ml_X2_110 dX2_layDown_147 rfl rfl rfl rfl rfl rfl rfl rfl (by decide) (fun _ => rfl) rfl rfl (Nat.le_of_ble_eq_true rfl) (fun v u h => ?_)
      subst h
      refine r_st (st' := []) rfl ?_
      refine r_iload dX2_layDown_150 rfl ?_
      exact r_iret () dX2_layDown_152 (by rw [hmv, show j = h by omega]; rfl) (by rw [hmv, show j = h by omega]; rfl)
    · refine r_iload dX2_layDown_57 rfl ?_
      refine r_bipush (nI 64) dX2_layDown_59 (by decide +kernel) ?_
      refine r_ncmp_ge 142 (by omega) (by omega) dX2_layDown_61 (by decide) (fun h2 => ?_) (fun h2 => ?_)
      · omega
      · have hm : j * (n - gp) ≤ 64 * 64 := Nat.mul_le_mul (by omega) (by omega)
        have hdv := Nat.div_le_self (j * (n - gp)) h
        have hpl := pos_lt (a := a) (le := lnB ρ w) (w := w) (show j < h by omega) hh
        refine r_iload_n 2 dX2_layDown_64 rfl rfl ?_
        refine r_iload dX2_layDown_65 rfl ?_
        refine r_iload_n 3 dX2_layDown_67 rfl rfl ?_
        refine r_iload dX2_layDown_68 rfl ?_
        refine r_nisub (by omega) dX2_layDown_70 ?_
        refine r_nimul dX2_layDown_71 ?_
        refine r_aload_n 0 dX2_layDown_72 rfl rfl ?_
        refine r_get 0 fk_X2_98 dX2_layDown_73 rfl rfl ?_
        refine r_nidiv (by omega) (by omega) (by omega) dX2_layDown_76 ?_
        refine r_niadd dX2_layDown_77 ?_
        refine r_istore ([some (.ref (p 0)), some (.ref (q 0)), some (.int (nI a)), some (.int (nI n)), some (.int (bI (lnB ρ w))), some (.int (nI gp)), some (.int (nI mv)), some (.int (nI j)), some (.int (nI (a + ((j * (n - gp)) / h))))]) dX2_layDown_78 (Nat.le_of_ble_eq_true rfl) rfl rfl ?_
        refine r_iload dX2_layDown_80 rfl ?_
        refine r_bif_eq 101 dX2_layDown_82 (by decide) (fun h3 => ?_) (fun h3 => ?_)
        · have hpos : pz ρ a n h w j = a + ((j * (n - gp)) / h) := by unfold pz posF; rw [hgp, h3]; simp
          refine r_lv (lv' := [some (.ref (p 0)), some (.ref (q 0)), some (.int (nI a)), some (.int (nI n)), some (.int (bI (lnB ρ w))), some (.int (nI gp)), some (.int (nI mv)), some (.int (nI j)), some (.int (nI (pz ρ a n h w j)))]) (by rw [hpos]) ?_
          have hpl2 : pz ρ a n h w j < a + n := hpl
          refine r_aload_n 1 dX2_layDown_101 rfl rfl ?_
          refine r_iload dX2_layDown_102 rfl ?_
          refine r_aload_n 0 dX2_layDown_104 rfl rfl ?_
          refine r_get 0 fk_X2_9 dX2_layDown_105 rfl rfl ?_
          refine r_iload dX2_layDown_108 rfl ?_
          refine r_iald 1 (j) dX2_layDown_110 rfl rfl rfl (by omega) (Nat.le_of_ble_eq_true rfl) ?_
          refine r_aload_n 0 dX2_layDown_111 rfl rfl ?_
          refine r_get 0 fk_X2_15 dX2_layDown_112 rfl rfl ?_
          refine r_iload dX2_layDown_115 rfl ?_
          refine r_iald 2 (j) dX2_layDown_117 rfl rfl rfl (by omega) (Nat.le_of_ble_eq_true rfl) ?_
          refine r_callV (As := [.int (nI (pz ρ a n h w j)), .int (K j), .int (V j)]) (st := []) [4, 5, 6, 7, 8, 9] [0, 1, 2, 3] (fun _ => spW cA p K V C (nI (h)) (w) ++ (rowW cA q (upd (upd (layF ρ K V (pz ρ a n h w) j) (31 + (pz ρ a n h w j)) (K j)) (95 + (pz ρ a n h w j)) (V j)))) [0, 1, 2, 3, 4, 5, 6, 7, 8, 9] (c_X1_fill l D cA cB q (layF ρ K V (pz ρ a n h w) j) (pz ρ a n h w j) (by omega) (K j) (V j)) kv_X1_fill ml_X2_81 dX2_layDown_118 rfl rfl rfl rfl rfl rfl rfl rfl (by decide) (fun _ => rfl) rfl rfl (Nat.le_of_ble_eq_true rfl) (fun v u h => ?_)
          subst h
          refine r_st (st' := []) rfl ?_
          refine r_iload dX2_layDown_121 rfl ?_
          refine r_aload_n 0 dX2_layDown_123 rfl rfl ?_
          refine r_get 0 fk_X2_18 dX2_layDown_124 rfl rfl ?_
          refine r_iload dX2_layDown_127 rfl ?_
          refine r_iald 3 (j) dX2_layDown_129 rfl rfl rfl (by omega) (Nat.le_of_ble_eq_true rfl) ?_
          refine r_icmp_eq 136 dX2_layDown_130 (by decide) (fun h4 => ?_) (fun h4 => ?_)
          · refine r_iinc (v := nI (j + 1)) ([some (.ref (p 0)), some (.ref (q 0)), some (.int (nI a)), some (.int (nI n)), some (.int (bI (lnB ρ w))), some (.int (nI gp)), some (.int (nI mv)), some (.int (nI (j + 1))), some (.int (nI (pz ρ a n h w j)))]) dX2_layDown_136 rfl (nI_1 _) (Nat.le_of_ble_eq_true rfl) rfl rfl ?_
            refine r_goto 48 dX2_layDown_139 (by decide) ?_
            refine r_drop (lv' := [some (.ref (p 0)), some (.ref (q 0)), some (.int (nI a)), some (.int (nI n)), some (.int (bI (lnB ρ w))), some (.int (nI gp)), some (.int (nI mv)), some (.int (nI (j + 1))), none]) 8 rfl ?_
            refine r_ws (ws' := spW cA p K V C (nI (h)) (w) ++ (rowW cA q (layF ρ K V (pz ρ a n h w) (j + 1)))) rfl ?_
            exact ih (j + 1) _ (by rw [hmv, mvF_s0 h4]) (by omega) (by omega)
          · refine r_iinc (v := nI (mv + 1)) ([some (.ref (p 0)), some (.ref (q 0)), some (.int (nI a)), some (.int (nI n)), some (.int (bI (lnB ρ w))), some (.int (nI gp)), some (.int (nI (mv + 1))), some (.int (nI j)), some (.int (nI (pz ρ a n h w j)))]) dX2_layDown_133 rfl (nI_1 _) (Nat.le_of_ble_eq_true rfl) rfl rfl ?_
            refine r_iinc (v := nI (j + 1)) ([some (.ref (p 0)), some (.ref (q 0)), some (.int (nI a)), some (.int (nI n)), some (.int (bI (lnB ρ w))), some (.int (nI gp)), some (.int (nI (mv + 1))), some (.int (nI (j + 1))), some (.int (nI (pz ρ a n h w j)))]) dX2_layDown_136 rfl (nI_1 _) (Nat.le_of_ble_eq_true rfl) rfl rfl ?_
            refine r_goto 48 dX2_layDown_139 (by decide) ?_
            refine r_drop (lv' := [some (.ref (p 0)), some (.ref (q 0)), some (.int (nI a)), some (.int (nI n)), some (.int (bI (lnB ρ w))), some (.int (nI gp)), some (.int (nI (mv + 1))), some (.int (nI (j + 1))), none]) 8 rfl ?_
            refine r_ws (ws' := spW cA p K V C (nI (h)) (w) ++ (rowW cA q (layF ρ K V (pz ρ a n h w) (j + 1)))) rfl ?_
            exact ih (j + 1) _ (by rw [hmv, mvF_s1 h4]) (by omega) (by omega)
        · refine r_iload dX2_layDown_85 rfl ?_
          refine r_aload_n 0 dX2_layDown_87 rfl rfl ?_
          refine r_get 0 fk_X2_101 dX2_layDown_88 rfl rfl ?_
          refine r_icmp_le 101 dX2_layDown_91 (by decide) (fun h5 => ?_) (fun h5 => ?_)
          · have hpos : pz ρ a n h w j = a + ((j * (n - gp)) / h) := by unfold pz posF; rw [hgp, h3, decide_eq_false (Int32.not_lt.mpr h5)]; simp
            refine r_lv (lv' := [some (.ref (p 0)), some (.ref (q 0)), some (.int (nI a)), some (.int (nI n)), some (.int (bI (lnB ρ w))), some (.int (nI gp)), some (.int (nI mv)), some (.int (nI j)), some (.int (nI (pz ρ a n h w j)))]) (by rw [hpos]) ?_
            have hpl2 : pz ρ a n h w j < a + n := hpl
            refine r_aload_n 1 dX2_layDown_101 rfl rfl ?_
            refine r_iload dX2_layDown_102 rfl ?_
            refine r_aload_n 0 dX2_layDown_104 rfl rfl ?_
            refine r_get 0 fk_X2_9 dX2_layDown_105 rfl rfl ?_
            refine r_iload dX2_layDown_108 rfl ?_
            refine r_iald 1 (j) dX2_layDown_110 rfl rfl rfl (by omega) (Nat.le_of_ble_eq_true rfl) ?_
            refine r_aload_n 0 dX2_layDown_111 rfl rfl ?_
            refine r_get 0 fk_X2_15 dX2_layDown_112 rfl rfl ?_
            refine r_iload dX2_layDown_115 rfl ?_
            refine r_iald 2 (j) dX2_layDown_117 rfl rfl rfl (by omega) (Nat.le_of_ble_eq_true rfl) ?_
            refine r_callV (As := [.int (nI (pz ρ a n h w j)), .int (K j), .int (V j)]) (st := []) [4, 5, 6, 7, 8, 9] [0, 1, 2, 3] (fun _ => spW cA p K V C (nI (h)) (w) ++ (rowW cA q (upd (upd (layF ρ K V (pz ρ a n h w) j) (31 + (pz ρ a n h w j)) (K j)) (95 + (pz ρ a n h w j)) (V j)))) [0, 1, 2, 3, 4, 5, 6, 7, 8, 9] (c_X1_fill l D cA cB q (layF ρ K V (pz ρ a n h w) j) (pz ρ a n h w j) (by omega) (K j) (V j)) kv_X1_fill ml_X2_81 dX2_layDown_118 rfl rfl rfl rfl rfl rfl rfl rfl (by decide) (fun _ => rfl) rfl rfl (Nat.le_of_ble_eq_true rfl) (fun v u h => ?_)
            subst h
            refine r_st (st' := []) rfl ?_
            refine r_iload dX2_layDown_121 rfl ?_
            refine r_aload_n 0 dX2_layDown_123 rfl rfl ?_
            refine r_get 0 fk_X2_18 dX2_layDown_124 rfl rfl ?_
            refine r_iload dX2_layDown_127 rfl ?_
            refine r_iald 3 (j) dX2_layDown_129 rfl rfl rfl (by omega) (Nat.le_of_ble_eq_true rfl) ?_
            refine r_icmp_eq 136 dX2_layDown_130 (by decide) (fun h6 => ?_) (fun h6 => ?_)
            · refine r_iinc (v := nI (j + 1)) ([some (.ref (p 0)), some (.ref (q 0)), some (.int (nI a)), some (.int (nI n)), some (.int (bI (lnB ρ w))), some (.int (nI gp)), some (.int (nI mv)), some (.int (nI (j + 1))), some (.int (nI (pz ρ a n h w j)))]) dX2_layDown_136 rfl (nI_1 _) (Nat.le_of_ble_eq_true rfl) rfl rfl ?_
              refine r_goto 48 dX2_layDown_139 (by decide) ?_
              refine r_drop (lv' := [some (.ref (p 0)), some (.ref (q 0)), some (.int (nI a)), some (.int (nI n)), some (.int (bI (lnB ρ w))), some (.int (nI gp)), some (.int (nI mv)), some (.int (nI (j + 1))), none]) 8 rfl ?_
              refine r_ws (ws' := spW cA p K V C (nI (h)) (w) ++ (rowW cA q (layF ρ K V (pz ρ a n h w) (j + 1)))) rfl ?_
              exact ih (j + 1) _ (by rw [hmv, mvF_s0 h6]) (by omega) (by omega)
            · refine r_iinc (v := nI (mv + 1)) ([some (.ref (p 0)), some (.ref (q 0)), some (.int (nI a)), some (.int (nI n)), some (.int (bI (lnB ρ w))), some (.int (nI gp)), some (.int (nI (mv + 1))), some (.int (nI j)), some (.int (nI (pz ρ a n h w j)))]) dX2_layDown_133 rfl (nI_1 _) (Nat.le_of_ble_eq_true rfl) rfl rfl ?_
              refine r_iinc (v := nI (j + 1)) ([some (.ref (p 0)), some (.ref (q 0)), some (.int (nI a)), some (.int (nI n)), some (.int (bI (lnB ρ w))), some (.int (nI gp)), some (.int (nI (mv + 1))), some (.int (nI (j + 1))), some (.int (nI (pz ρ a n h w j)))]) dX2_layDown_136 rfl (nI_1 _) (Nat.le_of_ble_eq_true rfl) rfl rfl ?_
              refine r_goto 48 dX2_layDown_139 (by decide) ?_
              refine r_drop (lv' := [some (.ref (p 0)), some (.ref (q 0)), some (.int (nI a)), some (.int (nI n)), some (.int (bI (lnB ρ w))), some (.int (nI gp)), some (.int (nI (mv + 1))), some (.int (nI (j + 1))), none]) 8 rfl ?_
              refine r_ws (ws' := spW cA p K V C (nI (h)) (w) ++ (rowW cA q (layF ρ K V (pz ρ a n h w) (j + 1)))) rfl ?_
              exact ih (j + 1) _ (by rw [hmv, mvF_s1 h6]) (by omega) (by omega)
          · refine r_iload dX2_layDown_94 rfl ?_
            refine r_iload dX2_layDown_96 rfl ?_
            refine r_niadd dX2_layDown_98 ?_
            refine r_istore ([some (.ref (p 0)), some (.ref (q 0)), some (.int (nI a)), some (.int (nI n)), some (.int (bI (lnB ρ w))), some (.int (nI gp)), some (.int (nI mv)), some (.int (nI j)), some (.int (nI ((a + ((j * (n - gp)) / h)) + gp)))]) dX2_layDown_99 (Nat.le_of_ble_eq_true rfl) rfl rfl ?_
            have hpos : pz ρ a n h w j = (a + ((j * (n - gp)) / h)) + gp := by unfold pz posF; rw [hgp, h3, decide_eq_true (Int32.not_le.mp h5)]; simp
            refine r_lv (lv' := [some (.ref (p 0)), some (.ref (q 0)), some (.int (nI a)), some (.int (nI n)), some (.int (bI (lnB ρ w))), some (.int (nI gp)), some (.int (nI mv)), some (.int (nI j)), some (.int (nI (pz ρ a n h w j)))]) (by rw [hpos]) ?_
            have hpl2 : pz ρ a n h w j < a + n := hpl
            refine r_aload_n 1 dX2_layDown_101 rfl rfl ?_
            refine r_iload dX2_layDown_102 rfl ?_
            refine r_aload_n 0 dX2_layDown_104 rfl rfl ?_
            refine r_get 0 fk_X2_9 dX2_layDown_105 rfl rfl ?_
            refine r_iload dX2_layDown_108 rfl ?_
            refine r_iald 1 (j) dX2_layDown_110 rfl rfl rfl (by omega) (Nat.le_of_ble_eq_true rfl) ?_
            refine r_aload_n 0 dX2_layDown_111 rfl rfl ?_
            refine r_get 0 fk_X2_15 dX2_layDown_112 rfl rfl ?_
            refine r_iload dX2_layDown_115 rfl ?_
            refine r_iald 2 (j) dX2_layDown_117 rfl rfl rfl (by omega) (Nat.le_of_ble_eq_true rfl) ?_
            refine r_callV (As := [.int (nI (pz ρ a n h w j)), .int (K j), .int (V j)]) (st := []) [4, 5, 6, 7, 8, 9] [0, 1, 2, 3] (fun _ => spW cA p K V C (nI (h)) (w) ++ (rowW cA q (upd (upd (layF ρ K V (pz ρ a n h w) j) (31 + (pz ρ a n h w j)) (K j)) (95 + (pz ρ a n h w j)) (V j)))) [0, 1, 2, 3, 4, 5, 6, 7, 8, 9] (c_X1_fill l D cA cB q (layF ρ K V (pz ρ a n h w) j) (pz ρ a n h w j) (by omega) (K j) (V j)) kv_X1_fill ml_X2_81 dX2_layDown_118 rfl rfl rfl rfl rfl rfl rfl rfl (by decide) (fun _ => rfl) rfl rfl (Nat.le_of_ble_eq_true rfl) (fun v u h => ?_)
            subst h
            refine r_st (st' := []) rfl ?_
            refine r_iload dX2_layDown_121 rfl ?_
            refine r_aload_n 0 dX2_layDown_123 rfl rfl ?_
            refine r_get 0 fk_X2_18 dX2_layDown_124 rfl rfl ?_
            refine r_iload dX2_layDown_127 rfl ?_
            refine r_iald 3 (j) dX2_layDown_129 rfl rfl rfl (by omega) (Nat.le_of_ble_eq_true rfl) ?_
            refine r_icmp_eq 136 dX2_layDown_130 (by decide) (fun h7 => ?_) (fun h7 => ?_)
            · refine r_iinc (v := nI (j + 1)) ([some (.ref (p 0)), some (.ref (q 0)), some (.int (nI a)), some (.int (nI n)), some (.int (bI (lnB ρ w))), some (.int (nI gp)), some (.int (nI mv)), some (.int (nI (j + 1))), some (.int (nI (pz ρ a n h w j)))]) dX2_layDown_136 rfl (nI_1 _) (Nat.le_of_ble_eq_true rfl) rfl rfl ?_
              refine r_goto 48 dX2_layDown_139 (by decide) ?_
              refine r_drop (lv' := [some (.ref (p 0)), some (.ref (q 0)), some (.int (nI a)), some (.int (nI n)), some (.int (bI (lnB ρ w))), some (.int (nI gp)), some (.int (nI mv)), some (.int (nI (j + 1))), none]) 8 rfl ?_
              refine r_ws (ws' := spW cA p K V C (nI (h)) (w) ++ (rowW cA q (layF ρ K V (pz ρ a n h w) (j + 1)))) rfl ?_
              exact ih (j + 1) _ (by rw [hmv, mvF_s0 h7]) (by omega) (by omega)
            · refine r_iinc (v := nI (mv + 1)) ([some (.ref (p 0)), some (.ref (q 0)), some (.int (nI a)), some (.int (nI n)), some (.int (bI (lnB ρ w))), some (.int (nI gp)), some (.int (nI (mv + 1))), some (.int (nI j)), some (.int (nI (pz ρ a n h w j)))]) dX2_layDown_133 rfl (nI_1 _) (Nat.le_of_ble_eq_true rfl) rfl rfl ?_
              refine r_iinc (v := nI (j + 1)) ([some (.ref (p 0)), some (.ref (q 0)), some (.int (nI a)), some (.int (nI n)), some (.int (bI (lnB ρ w))), some (.int (nI gp)), some (.int (nI (mv + 1))), some (.int (nI (j + 1))), some (.int (nI (pz ρ a n h w j)))]) dX2_layDown_136 rfl (nI_1 _) (Nat.le_of_ble_eq_true rfl) rfl rfl ?_
              refine r_goto 48 dX2_layDown_139 (by decide) ?_
              refine r_drop (lv' := [some (.ref (p 0)), some (.ref (q 0)), some (.int (nI a)), some (.int (nI n)), some (.int (bI (lnB ρ w))), some (.int (nI gp)), some (.int (nI (mv + 1))), some (.int (nI (j + 1))), none]) 8 rfl ?_
              refine r_ws (ws' := spW cA p K V C (nI (h)) (w) ++ (rowW cA q (layF ρ K V (pz ρ a n h w) (j + 1)))) rfl ?_
              exact ih (j + 1) _ (by rw [hmv, mvF_s1 h7]) (by omega) (by omega)

set_option maxRecDepth 100000 in
set_option maxHeartbeats 4000000 in
theorem c_X2_layDown (l : Launch) (D : va_G) (cA cB : ClassId) (p q : Nat → Nat) (ρ K V C : Nat → Int32) (h : Nat) (w : Int32) (g a n : Nat) (hg : ρ 6 = nI g) (hg8 : g ≤ 8) (hn : a + n ≤ 64) (hh : h ≤ n) : Mt l D (tyS cA cB) yX2_layDown cX2_layDown 9 (some .int) ({ frames := 2, cells := 0, slots := 0, locals := 45 } : Room) [.ref (p 0), .ref (q 0), .int (nI a), .int (nI n)] (spW cA p K V C (nI (h)) (w) ++ (rowW cA q ρ)) Unit (fun v _ => v = some (.int (nI (mvAll ρ C h w a n)))) (fun _ => spW cA p K V C (nI h) w ++ (rowW cA q (layAll ρ K V C h w a n g))) 0 0 := by
  refine mt_in RX2 ([some (.ref (p 0)), some (.ref (q 0)), some (.int (nI a)), some (.int (nI n)), none, none, none, none, none]) rfl (by decide +kernel) rfl (Nat.le_of_ble_eq_true rfl) rfl rfl (fun X sz => ?_)
  refine r_aload_n 1 dX2_layDown_0 rfl rfl ?_
  refine r_get 4 fk_X2_107 dX2_layDown_1 rfl rfl ?_
  refine r_iconst (nI 1) dX2_layDown_4 (by decide +kernel) ?_
  refine r_icmp_ne 20 dX2_layDown_5 (by decide) (fun h1 => ?_) (fun h1 => ?_)
  · refine r_iconst (nI 0) dX2_layDown_20 (by decide +kernel) ?_
    refine r_istore ([some (.ref (p 0)), some (.ref (q 0)), some (.int (nI a)), some (.int (nI n)), some (.int (nI 0)), none, none, none, none]) dX2_layDown_21 (Nat.le_of_ble_eq_true rfl) rfl rfl ?_
    refine r_iload dX2_layDown_23 rfl ?_
    refine r_if_eq 39 dX2_layDown_25 (by decide) (fun h2 => ?_) (fun h2 => ?_)
    · refine r_iconst (nI 0) dX2_layDown_39 (by decide +kernel) ?_
      refine r_istore ([some (.ref (p 0)), some (.ref (q 0)), some (.int (nI a)), some (.int (nI n)), some (.int (nI 0)), some (.int (nI 0)), none, none, none]) dX2_layDown_40 (Nat.le_of_ble_eq_true rfl) rfl rfl ?_
      refine r_iconst (nI 0) dX2_layDown_42 (by decide +kernel) ?_
      refine r_istore ([some (.ref (p 0)), some (.ref (q 0)), some (.int (nI a)), some (.int (nI n)), some (.int (nI 0)), some (.int (nI 0)), some (.int (nI 0)), none, none]) dX2_layDown_43 (Nat.le_of_ble_eq_true rfl) rfl rfl ?_
      refine r_iconst (nI 0) dX2_layDown_45 (by decide +kernel) ?_
      refine r_istore ([some (.ref (p 0)), some (.ref (q 0)), some (.int (nI a)), some (.int (nI n)), some (.int (nI 0)), some (.int (nI 0)), some (.int (nI 0)), some (.int (nI 0)), none]) dX2_layDown_46 (Nat.le_of_ble_eq_true rfl) rfl rfl ?_
      have hl : lnB ρ w = false := decide_eq_false (fun z => h1 z.1)
      refine r_lv (lv' := [some (.ref (p 0)), some (.ref (q 0)), some (.int (nI a)), some (.int (nI n)), some (.int (bI (lnB ρ w))), some (.int (nI 0)), some (.int (nI 0)), some (.int (nI 0)), none]) (by rw [hl]; rfl) ?_
      exact lp_X2_layDown l D cA cB p q ρ K V C h w g a n hg hg8 hn hh X sz _ (by rw [hl]; rfl) (h + 1) 0 0 rfl (by omega) (by omega)
    · exact absurd rfl h2
  · refine r_aload_n 0 dX2_layDown_8 rfl rfl ?_
    refine r_get 0 fk_X2_101 dX2_layDown_9 rfl rfl ?_
    refine r_iconst (-1) dX2_layDown_12 (by decide +kernel) ?_
    refine r_icmp_eq 20 dX2_layDown_13 (by decide) (fun h3 => ?_) (fun h3 => ?_)
    · refine r_iconst (nI 0) dX2_layDown_20 (by decide +kernel) ?_
      refine r_istore ([some (.ref (p 0)), some (.ref (q 0)), some (.int (nI a)), some (.int (nI n)), some (.int (nI 0)), none, none, none, none]) dX2_layDown_21 (Nat.le_of_ble_eq_true rfl) rfl rfl ?_
      refine r_iload dX2_layDown_23 rfl ?_
      refine r_if_eq 39 dX2_layDown_25 (by decide) (fun h4 => ?_) (fun h4 => ?_)
      · refine r_iconst (nI 0) dX2_layDown_39 (by decide +kernel) ?_
        refine r_istore ([some (.ref (p 0)), some (.ref (q 0)), some (.int (nI a)), some (.int (nI n)), some (.int (nI 0)), some (.int (nI 0)), none, none, none]) dX2_layDown_40 (Nat.le_of_ble_eq_true rfl) rfl rfl ?_
        refine r_iconst (nI 0) dX2_layDown_42 (by decide +kernel) ?_
        refine r_istore ([some (.ref (p 0)), some (.ref (q 0)), some (.int (nI a)), some (.int (nI n)), some (.int (nI 0)), some (.int (nI 0)), some (.int (nI 0)), none, none]) dX2_layDown_43 (Nat.le_of_ble_eq_true rfl) rfl rfl ?_
        refine r_iconst (nI 0) dX2_layDown_45 (by decide +kernel) ?_
        refine r_istore ([some (.ref (p 0)), some (.ref (q 0)), some (.int (nI a)), some (.int (nI n)), some (.int (nI 0)), some (.int (nI 0)), some (.int (nI 0)), some (.int (nI 0)), none]) dX2_layDown_46 (Nat.le_of_ble_eq_true rfl) rfl rfl ?_
        have hl : lnB ρ w = false := decide_eq_false (fun z => z.2 h3)
        refine r_lv (lv' := [some (.ref (p 0)), some (.ref (q 0)), some (.int (nI a)), some (.int (nI n)), some (.int (bI (lnB ρ w))), some (.int (nI 0)), some (.int (nI 0)), some (.int (nI 0)), none]) (by rw [hl]; rfl) ?_
        exact lp_X2_layDown l D cA cB p q ρ K V C h w g a n hg hg8 hn hh X sz _ (by rw [hl]; rfl) (h + 1) 0 0 rfl (by omega) (by omega)
      · exact absurd rfl h4
    · refine r_iconst (nI 1) dX2_layDown_16 (by decide +kernel) ?_
      refine r_goto 21 dX2_layDown_17 (by decide) ?_
      refine r_istore ([some (.ref (p 0)), some (.ref (q 0)), some (.int (nI a)), some (.int (nI n)), some (.int (nI 1)), none, none, none, none]) dX2_layDown_21 (Nat.le_of_ble_eq_true rfl) rfl rfl ?_
      refine r_iload dX2_layDown_23 rfl ?_
      refine r_if_eq 39 dX2_layDown_25 (by decide) (fun h5 => ?_) (fun h5 => ?_)
      · exact absurd h5 (by decide +kernel)
      · refine r_iload_n 3 dX2_layDown_28 rfl rfl ?_
        refine r_aload_n 0 dX2_layDown_29 rfl rfl ?_
        refine r_get 0 fk_X2_98 dX2_layDown_30 rfl rfl ?_
        refine r_nisub (by omega) dX2_layDown_33 ?_
        refine r_iconst (nI 2) dX2_layDown_34 (by decide +kernel) ?_
        refine r_nidiv (by omega) (by omega) (by omega) dX2_layDown_35 ?_
        refine r_goto 40 dX2_layDown_36 (by decide) ?_
        refine r_istore ([some (.ref (p 0)), some (.ref (q 0)), some (.int (nI a)), some (.int (nI n)), some (.int (nI 1)), some (.int (nI ((n - h) / 2))), none, none, none]) dX2_layDown_40 (Nat.le_of_ble_eq_true rfl) rfl rfl ?_
        refine r_iconst (nI 0) dX2_layDown_42 (by decide +kernel) ?_
        refine r_istore ([some (.ref (p 0)), some (.ref (q 0)), some (.int (nI a)), some (.int (nI n)), some (.int (nI 1)), some (.int (nI ((n - h) / 2))), some (.int (nI 0)), none, none]) dX2_layDown_43 (Nat.le_of_ble_eq_true rfl) rfl rfl ?_
        refine r_iconst (nI 0) dX2_layDown_45 (by decide +kernel) ?_
        refine r_istore ([some (.ref (p 0)), some (.ref (q 0)), some (.int (nI a)), some (.int (nI n)), some (.int (nI 1)), some (.int (nI ((n - h) / 2))), some (.int (nI 0)), some (.int (nI 0)), none]) dX2_layDown_46 (Nat.le_of_ble_eq_true rfl) rfl rfl ?_
        have hl : lnB ρ w = true := decide_eq_true ⟨h1, h3⟩
        refine r_lv (lv' := [some (.ref (p 0)), some (.ref (q 0)), some (.int (nI a)), some (.int (nI n)), some (.int (bI (lnB ρ w))), some (.int (nI ((n - h) / 2))), some (.int (nI 0)), some (.int (nI 0)), none]) (by rw [hl]; rfl) ?_
        exact lp_X2_layDown l D cA cB p q ρ K V C h w g a n hg hg8 hn hh X sz _ (by rw [hl]; rfl) (h + 1) 0 0 rfl (by omega) (by omega)
end
section
set_option maxRecDepth 100000 in
set_option maxHeartbeats 4000000 in
theorem c_X2_space (l : Launch) (D : va_G) (cA cB : ClassId) (p q : Nat → Nat) (ρ K V C : Nat → Int32) (h0 w0 : Int32) (g : Nat) (hg : ρ 6 = nI g) (hg8 : g ≤ 8) (a n : Nat) (hn : a + n ≤ 64) : Mt l D (tyS cA cB) yX2_space cX2_space 4 (some .int) ({ frames := 3, cells := 0, slots := 0, locals := 73 } : Room) [.ref (p 0), .ref (q 0), .int (nI a), .int (nI n)] (spW cA p K V C (h0) (w0) ++ (rowW cA q ρ)) Sp5 (fun v _ => v = some (.int (nI (spM ρ a n)))) (fun u => spU cA p u ++ (rowW cA q (spR ρ g a n))) 0 0 := by
  refine mt_in RX2 ([some (.ref (p 0)), some (.ref (q 0)), some (.int (nI a)), some (.int (nI n))]) rfl (by decide +kernel) rfl (Nat.le_of_ble_eq_true rfl) rfl rfl (fun X sz => ?_)
  refine r_aload_n 0 dX2_space_0 rfl rfl ?_
  refine r_aload_n 1 dX2_space_1 rfl rfl ?_
  refine r_iload_n 2 dX2_space_2 rfl rfl ?_
  refine r_iload_n 3 dX2_space_3 rfl rfl ?_
  refine r_callV (As := [.ref (q 0), .int (nI a), .int (nI n)]) (st := []) [0, 1, 2, 3, 4, 5, 6, 7, 8, 9] [] (fun _ => spW cA p (tkG ρ (kv ρ) a K n) (tkG ρ (vv ρ) a V n) (tkG ρ nI a C n) (nI (cnt ρ a n)) (-1) ++ (rowW cA q (clr ρ a n))) [0, 1, 2, 3, 4, 5, 6, 7, 8, 9] (c_X2_takeUp l D cA cB p q ρ K V C (h0) (w0) (a) (n) (by omega)) kv_X2_takeUp ml_X2_58 dX2_space_4 rfl rfl rfl rfl rfl rfl rfl rfl (by decide) (fun _ => rfl) rfl rfl (Nat.le_of_ble_eq_true rfl) (fun v u h => ?_)
  subst h
  refine r_st (st' := []) rfl ?_
  refine r_aload_n 0 dX2_space_7 rfl rfl ?_
  refine r_aload_n 1 dX2_space_8 rfl rfl ?_
  refine r_iload_n 2 dX2_space_9 rfl rfl ?_
  refine r_iload_n 3 dX2_space_10 rfl rfl ?_
  refine r_callV (As := [.ref (q 0), .int (nI a), .int (nI n)]) (st := []) [0, 1, 2, 3, 4, 5, 6, 7, 8, 9] [] (fun _ => spW cA p (tkG ρ (kv ρ) a K n) (tkG ρ (vv ρ) a V n) (tkG ρ nI a C n) (nI (cnt ρ a n)) (-1) ++ (rowW cA q (layAll (clr ρ a n) (tkG ρ (kv ρ) a K n) (tkG ρ (vv ρ) a V n) (tkG ρ nI a C n) (cnt ρ a n) (-1) a n g))) [0, 1, 2, 3, 4, 5, 6, 7, 8, 9] (c_X2_layDown l D cA cB p q (clr ρ a n) (tkG ρ (kv ρ) a K n) (tkG ρ (vv ρ) a V n) (tkG ρ nI a C n) (cnt ρ a n) (-1) g (a) (n) (by rw [clr_low (by omega)]; exact hg) hg8 (by omega) (cnt_le _ _ _)) kv_X2_layDown ml_X2_74 dX2_space_11 rfl rfl rfl rfl rfl rfl rfl rfl (by decide) (fun _ => rfl) rfl rfl (Nat.le_of_ble_eq_true rfl) (fun v u h => ?_)
  subst h
  refine r_st (st' := [.int (nI (mvAll (clr ρ a n) (tkG ρ nI a C n) (cnt ρ a n) (-1) a n))]) rfl ?_
  exact r_iret (tkG ρ (kv ρ) a K n, tkG ρ (vv ρ) a V n, tkG ρ nI a C n, nI (cnt ρ a n), -1) dX2_space_14 (by rw [spM_c]) (by rw [spR_c])

set_option maxRecDepth 100000 in
set_option maxHeartbeats 4000000 in
theorem c_X2_shrink (l : Launch) (D : va_G) (cA cB : ClassId) (p q : Nat → Nat) (ρ K V C : Nat → Int32) (h0 w0 : Int32) (g : Nat) (hg : ρ 6 = nI g) (hg8 : g ≤ 8) (n : Nat) (hsz : ρ 0 = nI n) (h3 : n = 16 ∨ n = 32 ∨ n = 64) (hc : cnt ρ 0 n ≤ n / 2) : Mt l D (tyS cA cB) yX2_shrink cX2_shrink 2 none ({ frames := 3, cells := 0, slots := 0, locals := 73 } : Room) [.ref (p 0), .ref (q 0)] (spW cA p K V C (h0) (w0) ++ (rowW cA q ρ)) Sp5 (fun v _ => v = none) (fun u => spU cA p u ++ (rowW cA q (shR ρ g n))) 0 0 := by
  refine mt_in RX2 ([some (.ref (p 0)), some (.ref (q 0))]) rfl (by decide +kernel) rfl (Nat.le_of_ble_eq_true rfl) rfl rfl (fun X sz => ?_)
  have hb : n ≤ 64 := by omega
  have hy := cnt_le ρ 0 n
  refine r_aload_n 0 dX2_shrink_0 rfl rfl ?_
  refine r_aload_n 1 dX2_shrink_1 rfl rfl ?_
  refine r_iconst (nI 0) dX2_shrink_2 (by decide +kernel) ?_
  refine r_aload_n 1 dX2_shrink_3 rfl rfl ?_
  refine r_get 4 fk_X2_21 dX2_shrink_4 rfl rfl ?_
  refine r_top (y := nI (n)) (hsz) ?_
  refine r_callV (As := [.ref (q 0), .int (nI 0), .int (nI n)]) (st := []) [0, 1, 2, 3, 4, 5, 6, 7, 8, 9] [] (fun _ => spW cA p (tkG ρ (kv ρ) 0 K n) (tkG ρ (vv ρ) 0 V n) (tkG ρ nI 0 C n) (nI (cnt ρ 0 n)) (-1) ++ (rowW cA q (clr ρ 0 n))) [0, 1, 2, 3, 4, 5, 6, 7, 8, 9] (c_X2_takeUp l D cA cB p q ρ K V C (h0) (w0) (0) (n) (by omega)) kv_X2_takeUp ml_X2_58 dX2_shrink_7 rfl rfl rfl rfl rfl rfl rfl rfl (by decide) (fun _ => rfl) rfl rfl (Nat.le_of_ble_eq_true rfl) (fun v u h => ?_)
  subst h
  refine r_st (st' := []) rfl ?_
  refine r_aload_n 1 dX2_shrink_10 rfl rfl ?_
  refine r_get 4 fk_X2_21 dX2_shrink_11 rfl rfl ?_
  refine r_top (y := nI (n)) (by rw [clr_low (by omega)]; exact hsz) ?_
  refine r_bipush (nI 16) dX2_shrink_14 (by decide +kernel) ?_
  refine r_ncmp_le 39 (by omega) (by omega) dX2_shrink_16 (by decide) (fun h1 => ?_) (fun h1 => ?_)
  · refine r_aload_n 0 dX2_shrink_39 rfl rfl ?_
    refine r_aload_n 1 dX2_shrink_40 rfl rfl ?_
    refine r_iconst (nI 0) dX2_shrink_41 (by decide +kernel) ?_
    refine r_aload_n 1 dX2_shrink_42 rfl rfl ?_
    refine r_get 4 fk_X2_21 dX2_shrink_43 rfl rfl ?_
    refine r_top (y := nI (n)) (by rw [clr_low (by omega)]; exact hsz) ?_
    refine r_callV (As := [.ref (q 0), .int (nI 0), .int (nI n)]) (st := []) [0, 1, 2, 3, 4, 5, 6, 7, 8, 9] [] (fun _ => spW cA p (tkG ρ (kv ρ) 0 K n) (tkG ρ (vv ρ) 0 V n) (tkG ρ nI 0 C n) (nI (cnt ρ 0 n)) (-1) ++ (rowW cA q (layAll (clr ρ 0 n) (tkG ρ (kv ρ) 0 K n) (tkG ρ (vv ρ) 0 V n) (tkG ρ nI 0 C n) (cnt ρ 0 n) (-1) 0 n g))) [0, 1, 2, 3, 4, 5, 6, 7, 8, 9] (c_X2_layDown l D cA cB p q (clr ρ 0 n) (tkG ρ (kv ρ) 0 K n) (tkG ρ (vv ρ) 0 V n) (tkG ρ nI 0 C n) (cnt ρ 0 n) (-1) g (0) (n) (by rw [clr_low (by omega)]; exact hg) hg8 (by omega) (by omega)) kv_X2_layDown ml_X2_74 dX2_shrink_46 rfl rfl rfl rfl rfl rfl rfl rfl (by decide) (fun _ => rfl) rfl rfl (Nat.le_of_ble_eq_true rfl) (fun v u h => ?_)
    subst h
    refine r_st (st' := [.int (nI (mvAll (clr ρ 0 n) (tkG ρ nI 0 C n) (cnt ρ 0 n) (-1) 0 n))]) rfl ?_
    refine r_pop rfl dX2_shrink_49 ?_
    exact r_vret (tkG ρ (kv ρ) 0 K n, tkG ρ (vv ρ) 0 V n, tkG ρ nI 0 C n, nI (cnt ρ 0 n), -1) dX2_shrink_50 (rfl) (by unfold shR; rw [if_neg (by omega), spR_c])
  · refine r_aload_n 1 dX2_shrink_19 rfl rfl ?_
    refine r_dup rfl dX2_shrink_20 ?_
    refine r_get 4 fk_X2_21 dX2_shrink_21 rfl rfl ?_
    refine r_top (y := nI (n)) (by rw [clr_low (by omega)]; exact hsz) ?_
    refine r_iconst (nI 2) dX2_shrink_24 (by decide +kernel) ?_
    refine r_nidiv (by omega) (by omega) (by omega) dX2_shrink_25 ?_
    refine r_put 4 (spW cA p (tkG ρ (kv ρ) 0 K n) (tkG ρ (vv ρ) 0 V n) (tkG ρ nI 0 C n) (nI (cnt ρ 0 n)) (-1) ++ ([(q 0, .inr (1, [.int (nI (n / 2)), .int ((clr ρ 0 n) 1), .int ((clr ρ 0 n) 2), .int ((clr ρ 0 n) 3), .int ((clr ρ 0 n) 4), .int ((clr ρ 0 n) 5), .int ((clr ρ 0 n) 6), .ref (q 1), .ref (q 2), .ref (q 3), .ref (q 4), .ref (q 5)])), (q 1, .inl (cA, 64, .inl (kA (clr ρ 0 n)))), (q 2, .inl (cA, 64, .inl (vA (clr ρ 0 n)))), (q 3, .inl (cA, 8, .inl (gA 0 (clr ρ 0 n)))), (q 4, .inl (cA, 8, .inl (gA 1 (clr ρ 0 n)))), (q 5, .inl (cA, 8, .inl (gA 2 (clr ρ 0 n))))])) fk_X2_21 dX2_shrink_26 rfl rfl rfl rfl (Nat.le_of_ble_eq_true rfl) rfl ?_
    refine r_ws (ws' := spW cA p (tkG ρ (kv ρ) 0 K n) (tkG ρ (vv ρ) 0 V n) (tkG ρ nI 0 C n) (nI (cnt ρ 0 n)) (-1) ++ (rowW cA q (upd (clr ρ 0 n) 0 (nI (n / 2))))) (by rw [← row_setF (ρ := clr ρ 0 n) 0 (by omega)]; rfl) ?_
    refine r_aload_n 1 dX2_shrink_29 rfl rfl ?_
    refine r_dup rfl dX2_shrink_30 ?_
    refine r_get 4 fk_X2_95 dX2_shrink_31 rfl rfl ?_
    refine r_top (y := ρ 5) (by rw [upd_n _ _ (by omega), clr_low (by omega)]) ?_
    refine r_iconst (nI 1) dX2_shrink_34 (by decide +kernel) ?_
    refine r_iadd dX2_shrink_35 ?_
    refine r_put 4 (spW cA p (tkG ρ (kv ρ) 0 K n) (tkG ρ (vv ρ) 0 V n) (tkG ρ nI 0 C n) (nI (cnt ρ 0 n)) (-1) ++ ([(q 0, .inr (1, [.int ((upd (clr ρ 0 n) 0 (nI (n / 2))) 0), .int ((upd (clr ρ 0 n) 0 (nI (n / 2))) 1), .int ((upd (clr ρ 0 n) 0 (nI (n / 2))) 2), .int ((upd (clr ρ 0 n) 0 (nI (n / 2))) 3), .int ((upd (clr ρ 0 n) 0 (nI (n / 2))) 4), .int ((ρ 5) + (nI (1))), .int ((upd (clr ρ 0 n) 0 (nI (n / 2))) 6), .ref (q 1), .ref (q 2), .ref (q 3), .ref (q 4), .ref (q 5)])), (q 1, .inl (cA, 64, .inl (kA (upd (clr ρ 0 n) 0 (nI (n / 2)))))), (q 2, .inl (cA, 64, .inl (vA (upd (clr ρ 0 n) 0 (nI (n / 2)))))), (q 3, .inl (cA, 8, .inl (gA 0 (upd (clr ρ 0 n) 0 (nI (n / 2)))))), (q 4, .inl (cA, 8, .inl (gA 1 (upd (clr ρ 0 n) 0 (nI (n / 2)))))), (q 5, .inl (cA, 8, .inl (gA 2 (upd (clr ρ 0 n) 0 (nI (n / 2))))))])) fk_X2_95 dX2_shrink_36 rfl rfl rfl rfl (Nat.le_of_ble_eq_true rfl) rfl ?_
    refine r_ws (ws' := spW cA p (tkG ρ (kv ρ) 0 K n) (tkG ρ (vv ρ) 0 V n) (tkG ρ nI 0 C n) (nI (cnt ρ 0 n)) (-1) ++ (rowW cA q (upd (upd (clr ρ 0 n) 0 (nI (n / 2))) 5 ((ρ 5) + (nI (1)))))) (by rw [← row_setF (ρ := upd (clr ρ 0 n) 0 (nI (n / 2))) 5 (by omega)]; rfl) ?_
    refine r_aload_n 0 dX2_shrink_39 rfl rfl ?_
    refine r_aload_n 1 dX2_shrink_40 rfl rfl ?_
    refine r_iconst (nI 0) dX2_shrink_41 (by decide +kernel) ?_
    refine r_aload_n 1 dX2_shrink_42 rfl rfl ?_
    refine r_get 4 fk_X2_21 dX2_shrink_43 rfl rfl ?_
    refine r_top (y := nI (n / 2)) (by rw [upd_n _ _ (by omega), upd_s]) ?_
    refine r_callV (As := [.ref (q 0), .int (nI 0), .int (nI (n / 2))]) (st := []) [0, 1, 2, 3, 4, 5, 6, 7, 8, 9] [] (fun _ => spW cA p (tkG ρ (kv ρ) 0 K n) (tkG ρ (vv ρ) 0 V n) (tkG ρ nI 0 C n) (nI (cnt ρ 0 n)) (-1) ++ (rowW cA q (layAll (upd (upd (clr ρ 0 n) 0 (nI (n / 2))) 5 ((ρ 5) + (nI (1)))) (tkG ρ (kv ρ) 0 K n) (tkG ρ (vv ρ) 0 V n) (tkG ρ nI 0 C n) (cnt ρ 0 n) (-1) 0 (n / 2) g))) [0, 1, 2, 3, 4, 5, 6, 7, 8, 9] (c_X2_layDown l D cA cB p q (upd (upd (clr ρ 0 n) 0 (nI (n / 2))) 5 ((ρ 5) + (nI (1)))) (tkG ρ (kv ρ) 0 K n) (tkG ρ (vv ρ) 0 V n) (tkG ρ nI 0 C n) (cnt ρ 0 n) (-1) g (0) (n / 2) (by rw [upd_n _ _ (by omega), upd_n _ _ (by omega), clr_low (by omega)]; exact hg) hg8 (by omega) (by omega)) kv_X2_layDown ml_X2_74 dX2_shrink_46 rfl rfl rfl rfl rfl rfl rfl rfl (by decide) (fun _ => rfl) rfl rfl (Nat.le_of_ble_eq_true rfl) (fun v u h => ?_)
    subst h
    refine r_st (st' := [.int (nI (mvAll (upd (upd (clr ρ 0 n) 0 (nI (n / 2))) 5 ((ρ 5) + (nI (1)))) (tkG ρ nI 0 C n) (cnt ρ 0 n) (-1) 0 (n / 2)))]) rfl ?_
    refine r_pop rfl dX2_shrink_49 ?_
    exact r_vret (tkG ρ (kv ρ) 0 K n, tkG ρ (vv ρ) 0 V n, tkG ρ nI 0 C n, nI (cnt ρ 0 n), -1) dX2_shrink_50 (rfl) (by unfold shR; rw [if_pos (by omega), layAll_c (fun j hj => tkG_c (f' := Zr) hj) (fun j hj => tkG_c (f' := Zr) hj) (fun j hj => tkG_c (f' := Zr) hj)]; rfl)

set_option maxRecDepth 100000 in
set_option maxHeartbeats 4000000 in
theorem c_X2_come (l : Launch) (D : va_G) (cA cB : ClassId) (p q : Nat → Nat) (ρ K V C : Nat → Int32) (h0 w0 : Int32) (g : Nat) (hg : ρ 6 = nI g) (hg8 : g ≤ 8) (n : Nat) (hsz : ρ 0 = nI n) (h3 : n = 16 ∨ n = 32 ∨ n = 64) (hs : Srt ρ n) (k v : Int32) (hr : hrB ρ n k = true) : Mt l D (tyS cA cB) yX2_come cX2_come 7 (some .int) ({ frames := 3, cells := 0, slots := 0, locals := 73 } : Room) [.ref (p 0), .ref (q 0), .int (k), .int (v)] (spW cA p K V C (h0) (w0) ++ (rowW cA q ρ)) Sp5 (fun v _ => v = some (.int (nI (comeM ρ n k)))) (fun u => spU cA p u ++ (rowW cA q (comeR ρ n g k v))) 0 0 := by
  refine mt_in RX2 ([some (.ref (p 0)), some (.ref (q 0)), some (.int (k)), some (.int (v)), none, none, none]) rfl (by decide +kernel) rfl (Nat.le_of_ble_eq_true rfl) rfl rfl (fun X sz => ?_)
  have hb : n ≤ 64 := by omega
  have hsg := segF_le ρ k n (by omega)
  have hy := cnt_le ρ 0 n
  refine r_aload_n 1 dX2_come_0 rfl rfl ?_
  refine r_iload_n 2 dX2_come_1 rfl rfl ?_
  refine r_callS (As := [.ref (q 0), .int (k)]) (st := []) [4, 5, 6, 7, 8, 9] [0, 1, 2, 3] (fun _ => spW cA p K V C (h0) (w0) ++ (rowW cA q ρ)) [0, 1, 2, 3, 4, 5, 6, 7, 8, 9] (c_X2_segmentFor l D cA cB q ρ n (hsz) h3 hs (k)) ks_X2_segmentFor ml_X2_27 dX2_come_2 rfl rfl rfl rfl rfl rfl (by decide) (fun _ => rfl) rfl rfl (Nat.le_of_ble_eq_true rfl) (fun v u h => ?_)
  subst h
  refine r_st (st' := [.int (nI (segF ρ k n))]) rfl ?_
  refine r_istore ([some (.ref (p 0)), some (.ref (q 0)), some (.int (k)), some (.int (v)), some (.int (nI (segF ρ k n))), none, none]) dX2_come_5 (Nat.le_of_ble_eq_true rfl) rfl rfl ?_
  refine r_aload_n 1 dX2_come_7 rfl rfl ?_
  refine r_iload dX2_come_8 rfl ?_
  refine r_callS (As := [.ref (q 0), .int (nI (segF ρ k n))]) (st := []) [4, 5, 6, 7, 8, 9] [0, 1, 2, 3] (fun _ => spW cA p K V C (h0) (w0) ++ (rowW cA q ρ)) [0, 1, 2, 3, 4, 5, 6, 7, 8, 9] (c_X2_levelFor l D cA cB q ρ n (hsz) h3 (segF ρ k n) (hsg)) ks_X2_levelFor ml_X2_31 dX2_come_10 rfl rfl rfl rfl rfl rfl (by decide) (fun _ => rfl) rfl rfl (Nat.le_of_ble_eq_true rfl) (fun v u h => ?_)
  subst h
  refine r_st (st' := [.int (oI (lvF ρ n (segF ρ k n) (topN n + 1) 0))]) rfl ?_
  refine r_istore ([some (.ref (p 0)), some (.ref (q 0)), some (.int (k)), some (.int (v)), some (.int (nI (segF ρ k n))), some (.int (oI (lvF ρ n (segF ρ k n) (topN n + 1) 0))), none]) dX2_come_13 (Nat.le_of_ble_eq_true rfl) rfl rfl ?_
  rcases e : lvF ρ n (segF ρ k n) (topN n + 1) 0 with _ | i
  · have hn64 : n < 64 := by unfold hrB at hr; rw [e] at hr; simpa using hr
    refine r_lv (lv' := [some (.ref (p 0)), some (.ref (q 0)), some (.int (k)), some (.int (v)), some (.int (nI (segF ρ k n))), some (.int (-1)), none]) (by first | rfl | (rw [e]; rfl)) ?_
    refine r_iload dX2_come_15 rfl ?_
    refine r_iconst (-1) dX2_come_17 (by decide +kernel) ?_
    refine r_icmp_ne 73 dX2_come_18 (by decide) (fun h1 => ?_) (fun h1 => ?_)
    · exact absurd rfl h1
    · refine r_aload_n 0 dX2_come_21 rfl rfl ?_
      refine r_aload_n 1 dX2_come_22 rfl rfl ?_
      refine r_iconst (nI 0) dX2_come_23 (by decide +kernel) ?_
      refine r_aload_n 1 dX2_come_24 rfl rfl ?_
      refine r_get 4 fk_X2_21 dX2_come_25 rfl rfl ?_
      refine r_top (y := nI (n)) (hsz) ?_
      refine r_callV (As := [.ref (q 0), .int (nI 0), .int (nI n)]) (st := []) [0, 1, 2, 3, 4, 5, 6, 7, 8, 9] [] (fun _ => spW cA p (tkG ρ (kv ρ) 0 K n) (tkG ρ (vv ρ) 0 V n) (tkG ρ nI 0 C n) (nI (cnt ρ 0 n)) (-1) ++ (rowW cA q (clr ρ 0 n))) [0, 1, 2, 3, 4, 5, 6, 7, 8, 9] (c_X2_takeUp l D cA cB p q ρ K V C (h0) (w0) (0) (n) (by omega)) kv_X2_takeUp ml_X2_58 dX2_come_28 rfl rfl rfl rfl rfl rfl rfl rfl (by decide) (fun _ => rfl) rfl rfl (Nat.le_of_ble_eq_true rfl) (fun v u h => ?_)
      subst h
      refine r_st (st' := []) rfl ?_
      refine r_aload_n 1 dX2_come_31 rfl rfl ?_
      refine r_iconst (nI 2) dX2_come_32 (by decide +kernel) ?_
      refine r_aload_n 1 dX2_come_33 rfl rfl ?_
      refine r_get 4 fk_X2_21 dX2_come_34 rfl rfl ?_
      refine r_top (y := nI (n)) (by rw [clr_low (by omega)]; exact hsz) ?_
      refine r_nimul dX2_come_37 ?_
      refine r_bipush (nI 64) dX2_come_38 (by decide +kernel) ?_
      refine r_mmin (by omega) (by omega) mm_X2_62 rfl rfl rfl rfl dX2_come_40 ?_
      refine r_top (y := nI (2 * n)) (by rw [Nat.min_eq_left (by omega)]) ?_
      refine r_put 4 (spW cA p (tkG ρ (kv ρ) 0 K n) (tkG ρ (vv ρ) 0 V n) (tkG ρ nI 0 C n) (nI (cnt ρ 0 n)) (-1) ++ ([(q 0, .inr (1, [.int (nI (2 * n)), .int ((clr ρ 0 n) 1), .int ((clr ρ 0 n) 2), .int ((clr ρ 0 n) 3), .int ((clr ρ 0 n) 4), .int ((clr ρ 0 n) 5), .int ((clr ρ 0 n) 6), .ref (q 1), .ref (q 2), .ref (q 3), .ref (q 4), .ref (q 5)])), (q 1, .inl (cA, 64, .inl (kA (clr ρ 0 n)))), (q 2, .inl (cA, 64, .inl (vA (clr ρ 0 n)))), (q 3, .inl (cA, 8, .inl (gA 0 (clr ρ 0 n)))), (q 4, .inl (cA, 8, .inl (gA 1 (clr ρ 0 n)))), (q 5, .inl (cA, 8, .inl (gA 2 (clr ρ 0 n))))])) fk_X2_21 dX2_come_43 rfl rfl rfl rfl (Nat.le_of_ble_eq_true rfl) rfl ?_
      refine r_ws (ws' := spW cA p (tkG ρ (kv ρ) 0 K n) (tkG ρ (vv ρ) 0 V n) (tkG ρ nI 0 C n) (nI (cnt ρ 0 n)) (-1) ++ (rowW cA q (upd (clr ρ 0 n) 0 (nI (2 * n))))) (by rw [← row_setF (ρ := clr ρ 0 n) 0 (by omega)]; rfl) ?_
      refine r_aload_n 1 dX2_come_46 rfl rfl ?_
      refine r_dup rfl dX2_come_47 ?_
      refine r_get 4 fk_X2_67 dX2_come_48 rfl rfl ?_
      refine r_top (y := ρ 4) (by rw [upd_n _ _ (by omega), clr_low (by omega)]) ?_
      refine r_iconst (nI 1) dX2_come_51 (by decide +kernel) ?_
      refine r_iadd dX2_come_52 ?_
      refine r_put 4 (spW cA p (tkG ρ (kv ρ) 0 K n) (tkG ρ (vv ρ) 0 V n) (tkG ρ nI 0 C n) (nI (cnt ρ 0 n)) (-1) ++ ([(q 0, .inr (1, [.int ((upd (clr ρ 0 n) 0 (nI (2 * n))) 0), .int ((upd (clr ρ 0 n) 0 (nI (2 * n))) 1), .int ((upd (clr ρ 0 n) 0 (nI (2 * n))) 2), .int ((upd (clr ρ 0 n) 0 (nI (2 * n))) 3), .int ((ρ 4) + (nI (1))), .int ((upd (clr ρ 0 n) 0 (nI (2 * n))) 5), .int ((upd (clr ρ 0 n) 0 (nI (2 * n))) 6), .ref (q 1), .ref (q 2), .ref (q 3), .ref (q 4), .ref (q 5)])), (q 1, .inl (cA, 64, .inl (kA (upd (clr ρ 0 n) 0 (nI (2 * n)))))), (q 2, .inl (cA, 64, .inl (vA (upd (clr ρ 0 n) 0 (nI (2 * n)))))), (q 3, .inl (cA, 8, .inl (gA 0 (upd (clr ρ 0 n) 0 (nI (2 * n)))))), (q 4, .inl (cA, 8, .inl (gA 1 (upd (clr ρ 0 n) 0 (nI (2 * n)))))), (q 5, .inl (cA, 8, .inl (gA 2 (upd (clr ρ 0 n) 0 (nI (2 * n))))))])) fk_X2_67 dX2_come_53 rfl rfl rfl rfl (Nat.le_of_ble_eq_true rfl) rfl ?_
      refine r_ws (ws' := spW cA p (tkG ρ (kv ρ) 0 K n) (tkG ρ (vv ρ) 0 V n) (tkG ρ nI 0 C n) (nI (cnt ρ 0 n)) (-1) ++ (rowW cA q (upd (upd (clr ρ 0 n) 0 (nI (2 * n))) 4 ((ρ 4) + (nI (1)))))) (by rw [← row_setF (ρ := upd (clr ρ 0 n) 0 (nI (2 * n))) 4 (by omega)]; rfl) ?_
      refine r_aload_n 0 dX2_come_56 rfl rfl ?_
      refine r_iload_n 2 dX2_come_57 rfl rfl ?_
      refine r_iload_n 3 dX2_come_58 rfl rfl ?_
      refine r_callV (As := [.int (k), .int (v)]) (st := []) [0, 1, 2, 3] [4, 5, 6, 7, 8, 9] (fun _ => spW cA p (insA (tkG ρ (kv ρ) 0 K n) (insP (tkG ρ (kv ρ) 0 K n) k (cnt ρ 0 n)) (cnt ρ 0 n) k) (insA (tkG ρ (vv ρ) 0 V n) (insP (tkG ρ (kv ρ) 0 K n) k (cnt ρ 0 n)) (cnt ρ 0 n) v) (insA (tkG ρ nI 0 C n) (insP (tkG ρ (kv ρ) 0 K n) k (cnt ρ 0 n)) (cnt ρ 0 n) (-1)) (nI (cnt ρ 0 n + 1)) (nI (insP (tkG ρ (kv ρ) 0 K n) k (cnt ρ 0 n))) ++ (rowW cA q (upd (upd (clr ρ 0 n) 0 (nI (2 * n))) 4 ((ρ 4) + (nI (1)))))) [6, 7, 8, 9, 0, 1, 2, 3, 4, 5] (c_X2_takeIn l D cA cB p (tkG ρ (kv ρ) 0 K n) (tkG ρ (vv ρ) 0 V n) (tkG ρ nI 0 C n) (cnt ρ 0 n) (by omega) (-1) (k) (v)) kv_X2_takeIn ml_X2_70 dX2_come_59 rfl rfl rfl rfl rfl rfl rfl rfl (by decide) (fun _ => rfl) rfl rfl (Nat.le_of_ble_eq_true rfl) (fun v u h => ?_)
      subst h
      refine r_st (st' := []) rfl ?_
      refine r_aload_n 0 dX2_come_62 rfl rfl ?_
      refine r_aload_n 1 dX2_come_63 rfl rfl ?_
      refine r_iconst (nI 0) dX2_come_64 (by decide +kernel) ?_
      refine r_aload_n 1 dX2_come_65 rfl rfl ?_
      refine r_get 4 fk_X2_21 dX2_come_66 rfl rfl ?_
      refine r_top (y := nI (2 * n)) (by rw [upd_n _ _ (by omega), upd_s]) ?_
      refine r_callV (As := [.ref (q 0), .int (nI 0), .int (nI (2 * n))]) (st := []) [0, 1, 2, 3, 4, 5, 6, 7, 8, 9] [] (fun _ => spW cA p (insA (tkG ρ (kv ρ) 0 K n) (insP (tkG ρ (kv ρ) 0 K n) k (cnt ρ 0 n)) (cnt ρ 0 n) k) (insA (tkG ρ (vv ρ) 0 V n) (insP (tkG ρ (kv ρ) 0 K n) k (cnt ρ 0 n)) (cnt ρ 0 n) v) (insA (tkG ρ nI 0 C n) (insP (tkG ρ (kv ρ) 0 K n) k (cnt ρ 0 n)) (cnt ρ 0 n) (-1)) (nI (cnt ρ 0 n + 1)) (nI (insP (tkG ρ (kv ρ) 0 K n) k (cnt ρ 0 n))) ++ (rowW cA q (layAll (upd (upd (clr ρ 0 n) 0 (nI (2 * n))) 4 ((ρ 4) + (nI (1)))) (insA (tkG ρ (kv ρ) 0 K n) (insP (tkG ρ (kv ρ) 0 K n) k (cnt ρ 0 n)) (cnt ρ 0 n) k) (insA (tkG ρ (vv ρ) 0 V n) (insP (tkG ρ (kv ρ) 0 K n) k (cnt ρ 0 n)) (cnt ρ 0 n) v) (insA (tkG ρ nI 0 C n) (insP (tkG ρ (kv ρ) 0 K n) k (cnt ρ 0 n)) (cnt ρ 0 n) (-1)) (cnt ρ 0 n + 1) (nI (insP (tkG ρ (kv ρ) 0 K n) k (cnt ρ 0 n))) 0 (2 * n) g))) [0, 1, 2, 3, 4, 5, 6, 7, 8, 9] (c_X2_layDown l D cA cB p q (upd (upd (clr ρ 0 n) 0 (nI (2 * n))) 4 ((ρ 4) + (nI (1)))) (insA (tkG ρ (kv ρ) 0 K n) (insP (tkG ρ (kv ρ) 0 K n) k (cnt ρ 0 n)) (cnt ρ 0 n) k) (insA (tkG ρ (vv ρ) 0 V n) (insP (tkG ρ (kv ρ) 0 K n) k (cnt ρ 0 n)) (cnt ρ 0 n) v) (insA (tkG ρ nI 0 C n) (insP (tkG ρ (kv ρ) 0 K n) k (cnt ρ 0 n)) (cnt ρ 0 n) (-1)) (cnt ρ 0 n + 1) (nI (insP (tkG ρ (kv ρ) 0 K n) k (cnt ρ 0 n))) g (0) (2 * n) (by rw [upd_n _ _ (by omega), upd_n _ _ (by omega), clr_low (by omega)]; exact hg) hg8 (by omega) (by omega)) kv_X2_layDown ml_X2_74 dX2_come_69 rfl rfl rfl rfl rfl rfl rfl rfl (by decide) (fun _ => rfl) rfl rfl (Nat.le_of_ble_eq_true rfl) (fun v u h => ?_)
      subst h
      refine r_st (st' := [.int (nI (mvAll (upd (upd (clr ρ 0 n) 0 (nI (2 * n))) 4 ((ρ 4) + (nI (1)))) (insA (tkG ρ nI 0 C n) (insP (tkG ρ (kv ρ) 0 K n) k (cnt ρ 0 n)) (cnt ρ 0 n) (-1)) (cnt ρ 0 n + 1) (nI (insP (tkG ρ (kv ρ) 0 K n) k (cnt ρ 0 n))) 0 (2 * n)))]) rfl ?_
      exact r_iret (insA (tkG ρ (kv ρ) 0 K n) (insP (tkG ρ (kv ρ) 0 K n) k (cnt ρ 0 n)) (cnt ρ 0 n) k, insA (tkG ρ (vv ρ) 0 V n) (insP (tkG ρ (kv ρ) 0 K n) k (cnt ρ 0 n)) (cnt ρ 0 n) v, insA (tkG ρ nI 0 C n) (insP (tkG ρ (kv ρ) 0 K n) k (cnt ρ 0 n)) (cnt ρ 0 n) (-1), nI (cnt ρ 0 n + 1), nI (insP (tkG ρ (kv ρ) 0 K n) k (cnt ρ 0 n))) dX2_come_72 (by unfold comeM; rw [e]; dsimp only; rw [← inM_c] <;> rfl) (by unfold comeR; rw [e]; dsimp only; rw [← inR_c] <;> rfl)
  · obtain ⟨-, hi, hm⟩ := lvF_some e
    refine r_lv (lv' := [some (.ref (p 0)), some (.ref (q 0)), some (.int (k)), some (.int (v)), some (.int (nI (segF ρ k n))), some (.int (nI i)), none]) (by first | rfl | (rw [e]; rfl)) ?_
    have ht := top_le (sz := n)
    have hp := pow4 i (by omega)
    have hw := wst_le h3 hsg (show i ≤ topN n by omega)
    have hml := most_le (n := n) (i := i)
    refine r_iload dX2_come_15 rfl ?_
    refine r_iconst (-1) dX2_come_17 (by decide +kernel) ?_
    refine r_icmp_ne 73 dX2_come_18 (by decide) (fun h2 => ?_) (fun h2 => ?_)
    · refine r_iload dX2_come_73 rfl ?_
      refine r_iload dX2_come_75 rfl ?_
      refine r_callS (As := [.int (nI (segF ρ k n)), .int (nI i)]) (st := []) [] [0, 1, 2, 3, 4, 5, 6, 7, 8, 9] (fun _ => spW cA p K V C (h0) (w0) ++ (rowW cA q ρ)) [0, 1, 2, 3, 4, 5, 6, 7, 8, 9] (c_X2_windowStart l D cA cB (segF ρ k n) (i) (by omega) (by omega)) ks_X2_windowStart ml_X2_45 dX2_come_77 rfl rfl rfl rfl rfl rfl (by decide) (fun _ => rfl) rfl rfl (Nat.le_of_ble_eq_true rfl) (fun v u h => ?_)
      subst h
      refine r_st (st' := [.int (nI (wst (segF ρ k n) i))]) rfl ?_
      refine r_istore ([some (.ref (p 0)), some (.ref (q 0)), some (.int (k)), some (.int (v)), some (.int (nI (segF ρ k n))), some (.int (nI i)), some (.int (nI (wst (segF ρ k n) i)))]) dX2_come_80 (Nat.le_of_ble_eq_true rfl) rfl rfl ?_
      refine r_aload_n 0 dX2_come_82 rfl rfl ?_
      refine r_aload_n 1 dX2_come_83 rfl rfl ?_
      refine r_iload dX2_come_84 rfl ?_
      refine r_iload dX2_come_86 rfl ?_
      refine r_callS (As := [.int (nI i)]) (st := [.int (nI (wst (segF ρ k n) i)), .ref (q 0), .ref (p 0)]) [] [0, 1, 2, 3, 4, 5, 6, 7, 8, 9] (fun _ => spW cA p K V C (h0) (w0) ++ (rowW cA q ρ)) [0, 1, 2, 3, 4, 5, 6, 7, 8, 9] (c_X4_cellsOf l D cA cB (i) (by omega)) ks_X4_cellsOf ml_X2_49 dX2_come_88 rfl rfl rfl rfl rfl rfl (by decide) (fun _ => rfl) rfl rfl (Nat.le_of_ble_eq_true rfl) (fun v u h => ?_)
      subst h
      refine r_st (st' := [.int (nI (4 * 2 ^ i)), .int (nI (wst (segF ρ k n) i)), .ref (q 0), .ref (p 0)]) rfl ?_
      refine r_callV (As := [.ref (q 0), .int (nI (wst (segF ρ k n) i)), .int (nI (4 * 2 ^ i))]) (st := []) [0, 1, 2, 3, 4, 5, 6, 7, 8, 9] [] (fun _ => spW cA p (tkG ρ (kv ρ) (wst (segF ρ k n) i) K (4 * 2 ^ i)) (tkG ρ (vv ρ) (wst (segF ρ k n) i) V (4 * 2 ^ i)) (tkG ρ nI (wst (segF ρ k n) i) C (4 * 2 ^ i)) (nI (cnt ρ (wst (segF ρ k n) i) (4 * 2 ^ i))) (-1) ++ (rowW cA q (clr ρ (wst (segF ρ k n) i) (4 * 2 ^ i)))) [0, 1, 2, 3, 4, 5, 6, 7, 8, 9] (c_X2_takeUp l D cA cB p q ρ K V C (h0) (w0) (wst (segF ρ k n) i) (4 * 2 ^ i) (by omega)) kv_X2_takeUp ml_X2_58 dX2_come_91 rfl rfl rfl rfl rfl rfl rfl rfl (by decide) (fun _ => rfl) rfl rfl (Nat.le_of_ble_eq_true rfl) (fun v u h => ?_)
      subst h
      refine r_st (st' := []) rfl ?_
      refine r_aload_n 0 dX2_come_94 rfl rfl ?_
      refine r_iload_n 2 dX2_come_95 rfl rfl ?_
      refine r_iload_n 3 dX2_come_96 rfl rfl ?_
      refine r_callV (As := [.int (k), .int (v)]) (st := []) [0, 1, 2, 3] [4, 5, 6, 7, 8, 9] (fun _ => spW cA p (insA (tkG ρ (kv ρ) (wst (segF ρ k n) i) K (4 * 2 ^ i)) (insP (tkG ρ (kv ρ) (wst (segF ρ k n) i) K (4 * 2 ^ i)) k (cnt ρ (wst (segF ρ k n) i) (4 * 2 ^ i))) (cnt ρ (wst (segF ρ k n) i) (4 * 2 ^ i)) k) (insA (tkG ρ (vv ρ) (wst (segF ρ k n) i) V (4 * 2 ^ i)) (insP (tkG ρ (kv ρ) (wst (segF ρ k n) i) K (4 * 2 ^ i)) k (cnt ρ (wst (segF ρ k n) i) (4 * 2 ^ i))) (cnt ρ (wst (segF ρ k n) i) (4 * 2 ^ i)) v) (insA (tkG ρ nI (wst (segF ρ k n) i) C (4 * 2 ^ i)) (insP (tkG ρ (kv ρ) (wst (segF ρ k n) i) K (4 * 2 ^ i)) k (cnt ρ (wst (segF ρ k n) i) (4 * 2 ^ i))) (cnt ρ (wst (segF ρ k n) i) (4 * 2 ^ i)) (-1)) (nI (cnt ρ (wst (segF ρ k n) i) (4 * 2 ^ i) + 1)) (nI (insP (tkG ρ (kv ρ) (wst (segF ρ k n) i) K (4 * 2 ^ i)) k (cnt ρ (wst (segF ρ k n) i) (4 * 2 ^ i)))) ++ (rowW cA q (clr ρ (wst (segF ρ k n) i) (4 * 2 ^ i)))) [6, 7, 8, 9, 0, 1, 2, 3, 4, 5] (c_X2_takeIn l D cA cB p (tkG ρ (kv ρ) (wst (segF ρ k n) i) K (4 * 2 ^ i)) (tkG ρ (vv ρ) (wst (segF ρ k n) i) V (4 * 2 ^ i)) (tkG ρ nI (wst (segF ρ k n) i) C (4 * 2 ^ i)) (cnt ρ (wst (segF ρ k n) i) (4 * 2 ^ i)) (by omega) (-1) (k) (v)) kv_X2_takeIn ml_X2_70 dX2_come_97 rfl rfl rfl rfl rfl rfl rfl rfl (by decide) (fun _ => rfl) rfl rfl (Nat.le_of_ble_eq_true rfl) (fun v u h => ?_)
      subst h
      refine r_st (st' := []) rfl ?_
      refine r_aload_n 0 dX2_come_100 rfl rfl ?_
      refine r_aload_n 1 dX2_come_101 rfl rfl ?_
      refine r_iload dX2_come_102 rfl ?_
      refine r_iload dX2_come_104 rfl ?_
      refine r_callS (As := [.int (nI i)]) (st := [.int (nI (wst (segF ρ k n) i)), .ref (q 0), .ref (p 0)]) [] [0, 1, 2, 3, 4, 5, 6, 7, 8, 9] (fun _ => spW cA p (insA (tkG ρ (kv ρ) (wst (segF ρ k n) i) K (4 * 2 ^ i)) (insP (tkG ρ (kv ρ) (wst (segF ρ k n) i) K (4 * 2 ^ i)) k (cnt ρ (wst (segF ρ k n) i) (4 * 2 ^ i))) (cnt ρ (wst (segF ρ k n) i) (4 * 2 ^ i)) k) (insA (tkG ρ (vv ρ) (wst (segF ρ k n) i) V (4 * 2 ^ i)) (insP (tkG ρ (kv ρ) (wst (segF ρ k n) i) K (4 * 2 ^ i)) k (cnt ρ (wst (segF ρ k n) i) (4 * 2 ^ i))) (cnt ρ (wst (segF ρ k n) i) (4 * 2 ^ i)) v) (insA (tkG ρ nI (wst (segF ρ k n) i) C (4 * 2 ^ i)) (insP (tkG ρ (kv ρ) (wst (segF ρ k n) i) K (4 * 2 ^ i)) k (cnt ρ (wst (segF ρ k n) i) (4 * 2 ^ i))) (cnt ρ (wst (segF ρ k n) i) (4 * 2 ^ i)) (-1)) (nI (cnt ρ (wst (segF ρ k n) i) (4 * 2 ^ i) + 1)) (nI (insP (tkG ρ (kv ρ) (wst (segF ρ k n) i) K (4 * 2 ^ i)) k (cnt ρ (wst (segF ρ k n) i) (4 * 2 ^ i)))) ++ (rowW cA q (clr ρ (wst (segF ρ k n) i) (4 * 2 ^ i)))) [0, 1, 2, 3, 4, 5, 6, 7, 8, 9] (c_X4_cellsOf l D cA cB (i) (by omega)) ks_X4_cellsOf ml_X2_49 dX2_come_106 rfl rfl rfl rfl rfl rfl (by decide) (fun _ => rfl) rfl rfl (Nat.le_of_ble_eq_true rfl) (fun v u h => ?_)
      subst h
      refine r_st (st' := [.int (nI (4 * 2 ^ i)), .int (nI (wst (segF ρ k n) i)), .ref (q 0), .ref (p 0)]) rfl ?_
      refine r_callV (As := [.ref (q 0), .int (nI (wst (segF ρ k n) i)), .int (nI (4 * 2 ^ i))]) (st := []) [0, 1, 2, 3, 4, 5, 6, 7, 8, 9] [] (fun _ => spW cA p (insA (tkG ρ (kv ρ) (wst (segF ρ k n) i) K (4 * 2 ^ i)) (insP (tkG ρ (kv ρ) (wst (segF ρ k n) i) K (4 * 2 ^ i)) k (cnt ρ (wst (segF ρ k n) i) (4 * 2 ^ i))) (cnt ρ (wst (segF ρ k n) i) (4 * 2 ^ i)) k) (insA (tkG ρ (vv ρ) (wst (segF ρ k n) i) V (4 * 2 ^ i)) (insP (tkG ρ (kv ρ) (wst (segF ρ k n) i) K (4 * 2 ^ i)) k (cnt ρ (wst (segF ρ k n) i) (4 * 2 ^ i))) (cnt ρ (wst (segF ρ k n) i) (4 * 2 ^ i)) v) (insA (tkG ρ nI (wst (segF ρ k n) i) C (4 * 2 ^ i)) (insP (tkG ρ (kv ρ) (wst (segF ρ k n) i) K (4 * 2 ^ i)) k (cnt ρ (wst (segF ρ k n) i) (4 * 2 ^ i))) (cnt ρ (wst (segF ρ k n) i) (4 * 2 ^ i)) (-1)) (nI (cnt ρ (wst (segF ρ k n) i) (4 * 2 ^ i) + 1)) (nI (insP (tkG ρ (kv ρ) (wst (segF ρ k n) i) K (4 * 2 ^ i)) k (cnt ρ (wst (segF ρ k n) i) (4 * 2 ^ i)))) ++ (rowW cA q (layAll (clr ρ (wst (segF ρ k n) i) (4 * 2 ^ i)) (insA (tkG ρ (kv ρ) (wst (segF ρ k n) i) K (4 * 2 ^ i)) (insP (tkG ρ (kv ρ) (wst (segF ρ k n) i) K (4 * 2 ^ i)) k (cnt ρ (wst (segF ρ k n) i) (4 * 2 ^ i))) (cnt ρ (wst (segF ρ k n) i) (4 * 2 ^ i)) k) (insA (tkG ρ (vv ρ) (wst (segF ρ k n) i) V (4 * 2 ^ i)) (insP (tkG ρ (kv ρ) (wst (segF ρ k n) i) K (4 * 2 ^ i)) k (cnt ρ (wst (segF ρ k n) i) (4 * 2 ^ i))) (cnt ρ (wst (segF ρ k n) i) (4 * 2 ^ i)) v) (insA (tkG ρ nI (wst (segF ρ k n) i) C (4 * 2 ^ i)) (insP (tkG ρ (kv ρ) (wst (segF ρ k n) i) K (4 * 2 ^ i)) k (cnt ρ (wst (segF ρ k n) i) (4 * 2 ^ i))) (cnt ρ (wst (segF ρ k n) i) (4 * 2 ^ i)) (-1)) (cnt ρ (wst (segF ρ k n) i) (4 * 2 ^ i) + 1) (nI (insP (tkG ρ (kv ρ) (wst (segF ρ k n) i) K (4 * 2 ^ i)) k (cnt ρ (wst (segF ρ k n) i) (4 * 2 ^ i)))) (wst (segF ρ k n) i) (4 * 2 ^ i) g))) [0, 1, 2, 3, 4, 5, 6, 7, 8, 9] (c_X2_layDown l D cA cB p q (clr ρ (wst (segF ρ k n) i) (4 * 2 ^ i)) (insA (tkG ρ (kv ρ) (wst (segF ρ k n) i) K (4 * 2 ^ i)) (insP (tkG ρ (kv ρ) (wst (segF ρ k n) i) K (4 * 2 ^ i)) k (cnt ρ (wst (segF ρ k n) i) (4 * 2 ^ i))) (cnt ρ (wst (segF ρ k n) i) (4 * 2 ^ i)) k) (insA (tkG ρ (vv ρ) (wst (segF ρ k n) i) V (4 * 2 ^ i)) (insP (tkG ρ (kv ρ) (wst (segF ρ k n) i) K (4 * 2 ^ i)) k (cnt ρ (wst (segF ρ k n) i) (4 * 2 ^ i))) (cnt ρ (wst (segF ρ k n) i) (4 * 2 ^ i)) v) (insA (tkG ρ nI (wst (segF ρ k n) i) C (4 * 2 ^ i)) (insP (tkG ρ (kv ρ) (wst (segF ρ k n) i) K (4 * 2 ^ i)) k (cnt ρ (wst (segF ρ k n) i) (4 * 2 ^ i))) (cnt ρ (wst (segF ρ k n) i) (4 * 2 ^ i)) (-1)) (cnt ρ (wst (segF ρ k n) i) (4 * 2 ^ i) + 1) (nI (insP (tkG ρ (kv ρ) (wst (segF ρ k n) i) K (4 * 2 ^ i)) k (cnt ρ (wst (segF ρ k n) i) (4 * 2 ^ i)))) g (wst (segF ρ k n) i) (4 * 2 ^ i) (by rw [clr_low (by omega)]; exact hg) hg8 (by omega) (by omega)) kv_X2_layDown ml_X2_74 dX2_come_109 rfl rfl rfl rfl rfl rfl rfl rfl (by decide) (fun _ => rfl) rfl rfl (Nat.le_of_ble_eq_true rfl) (fun v u h => ?_)
      subst h
      refine r_st (st' := [.int (nI (mvAll (clr ρ (wst (segF ρ k n) i) (4 * 2 ^ i)) (insA (tkG ρ nI (wst (segF ρ k n) i) C (4 * 2 ^ i)) (insP (tkG ρ (kv ρ) (wst (segF ρ k n) i) K (4 * 2 ^ i)) k (cnt ρ (wst (segF ρ k n) i) (4 * 2 ^ i))) (cnt ρ (wst (segF ρ k n) i) (4 * 2 ^ i)) (-1)) (cnt ρ (wst (segF ρ k n) i) (4 * 2 ^ i) + 1) (nI (insP (tkG ρ (kv ρ) (wst (segF ρ k n) i) K (4 * 2 ^ i)) k (cnt ρ (wst (segF ρ k n) i) (4 * 2 ^ i)))) (wst (segF ρ k n) i) (4 * 2 ^ i)))]) rfl ?_
      exact r_iret (insA (tkG ρ (kv ρ) (wst (segF ρ k n) i) K (4 * 2 ^ i)) (insP (tkG ρ (kv ρ) (wst (segF ρ k n) i) K (4 * 2 ^ i)) k (cnt ρ (wst (segF ρ k n) i) (4 * 2 ^ i))) (cnt ρ (wst (segF ρ k n) i) (4 * 2 ^ i)) k, insA (tkG ρ (vv ρ) (wst (segF ρ k n) i) V (4 * 2 ^ i)) (insP (tkG ρ (kv ρ) (wst (segF ρ k n) i) K (4 * 2 ^ i)) k (cnt ρ (wst (segF ρ k n) i) (4 * 2 ^ i))) (cnt ρ (wst (segF ρ k n) i) (4 * 2 ^ i)) v, insA (tkG ρ nI (wst (segF ρ k n) i) C (4 * 2 ^ i)) (insP (tkG ρ (kv ρ) (wst (segF ρ k n) i) K (4 * 2 ^ i)) k (cnt ρ (wst (segF ρ k n) i) (4 * 2 ^ i))) (cnt ρ (wst (segF ρ k n) i) (4 * 2 ^ i)) (-1), nI (cnt ρ (wst (segF ρ k n) i) (4 * 2 ^ i) + 1), nI (insP (tkG ρ (kv ρ) (wst (segF ρ k n) i) K (4 * 2 ^ i)) k (cnt ρ (wst (segF ρ k n) i) (4 * 2 ^ i)))) dX2_come_112 (by unfold comeM; rw [e]; dsimp only; rw [← inM_c] <;> rfl) (by unfold comeR; rw [e]; dsimp only; rw [← inR_c] <;> rfl)
    · exact absurd h2 (nI_ne_m1 (by omega))

theorem least_lt {n i : Nat} (h : i ≤ 4) : leastN n i ≤ 64 := by
  unfold leastN
  have hp := pow4 i h
  have ht := top_le (sz := n)
  have hq5 := Nat.div_le_self (5 * i) (topN n)
  have hy : 4 * 2 ^ i * (25 + 5 * i / topN n) ≤ 64 * 45 := Nat.mul_le_mul hp (by omega)
  omega
set_option maxRecDepth 100000 in
set_option maxHeartbeats 4000000 in
theorem lp_X2_go (l : Launch) (D : va_G) (cA cB : ClassId) (p q : Nat → Nat) (ρ K V C : Nat → Int32) (h0 w0 : Int32) (g : Nat) (hg : ρ 6 = nI g) (hg8 : g ≤ 8) (n : Nat) (hsz : ρ 0 = nI n) (h3 : n = 16 ∨ n = 32 ∨ n = 64) (c : Nat) (hc : c < n) (X : Cx) (sz : Nat) : ¬ leastN n 0 ≤ cnt (emp ρ c) (wst (c / 4) 0) 4 → ∀ (f i : Nat), 1 ≤ i → i ≤ topN n + 1 → topN n + 1 < i + f → gvF (emp ρ c) n (c / 4) (topN n + 1 - i) i = gvF (emp ρ c) n (c / 4) (topN n) 1 → G l X ({ frames := 4, cells := 0, slots := 0, locals := 96 } : Room) cX2_go RX2 (some .int) D (tyS cA cB) (va_A (spW cA p K V C (h0) (w0) ++ (rowW cA q ρ)) sz) (QX X D (tyS cA cB) (spW cA p K V C (h0) (w0) ++ (rowW cA q ρ)) sz Sp5 (fun v _ => v = some (.int (ρ (95 + c)))) (fun u => spU cA p u ++ (rowW cA q (goR ρ n g c))) 0 0) 0 0 (spW cA p K V C (h0) (w0) ++ (rowW cA q (emp ρ c))) 42 ([some (.ref (p 0)), some (.ref (q 0)), some (.int (nI c)), some (.int (ρ (95 + c))), some (.int (nI (c / 4))), some (.int (nI i)), none]) [] := by
  intro hb0 f
  have hb : n ≤ 64 := by omega
  have ht := top_le (sz := n)
  induction f with
  | zero => intro i h1 h2 h3; omega
  | succ f ih =>
    intro i hi1 hi hf he
    refine r_iload dX2_go_42 rfl ?_
    refine r_aload_n 1 dX2_go_44 rfl rfl ?_
    refine r_callV (As := []) (st := [.int (nI i)]) [4, 5, 6, 7, 8, 9] [0, 1, 2, 3] (fun _ => spW cA p K V C (h0) (w0) ++ (rowW cA q (emp ρ c))) [0, 1, 2, 3, 4, 5, 6, 7, 8, 9] (c_X1_top l D cA cB q (emp ρ c) n (by unfold emp; rw [upd_n _ _ (by omega), upd_n _ _ (by omega)]; exact hsz) h3 ) kv_X1_top ml_X2_41 dX2_go_45 rfl rfl rfl rfl rfl rfl rfl rfl (by decide) (fun _ => rfl) rfl rfl (Nat.le_of_ble_eq_true rfl) (fun v u h => ?_)
    subst h
    refine r_st (st' := [.int (nI (topN n)), .int (nI i)]) rfl ?_
    refine r_ncmp_gt 101 (by omega) (by omega) dX2_go_48 (by decide) (fun h1 => ?_) (fun h1 => ?_)
    · have hno : gvF (emp ρ c) n (c / 4) (topN n) 1 = none := by rw [← he, show topN n + 1 - i = 0 by omega]; rfl
      have hthin := gvF_none hno (topN n) (by omega) (by omega)
      rw [wst_top h3 (by omega), top_pow h3] at hthin
      have hhalf := least_half h3
      refine r_aload_n 0 dX2_go_101 rfl rfl ?_
      refine r_aload_n 1 dX2_go_102 rfl rfl ?_
      refine r_callV (As := [.ref (q 0)]) (st := []) [0, 1, 2, 3, 4, 5, 6, 7, 8, 9] [] (fun u2 => spU cA p u2 ++ (rowW cA q (shR (emp ρ c) g n))) [0, 1, 2, 3, 4, 5, 6, 7, 8, 9] (c_X2_shrink l D cA cB p q (emp ρ c) K V C (h0) (w0) g (by unfold emp; rw [upd_n _ _ (by omega), upd_n _ _ (by omega)]; exact hg) hg8 n (by unfold emp; rw [upd_n _ _ (by omega), upd_n _ _ (by omega)]; exact hsz) h3 (by omega)) kv_X2_shrink ml_X2_91 dX2_go_103 rfl rfl rfl rfl rfl rfl rfl rfl (by decide) (fun _ => rfl) rfl rfl (Nat.le_of_ble_eq_true rfl) (fun v u2 h => ?_)
      subst h
      refine r_st (st' := []) rfl ?_
      refine r_iload_n 3 dX2_go_106 rfl rfl ?_
      exact r_iret (u2.1, u2.2.1, u2.2.2.1, u2.2.2.2.1, u2.2.2.2.2) dX2_go_107 (rfl) (by unfold goR; rw [if_neg hb0, hno])
    · have hw := wst_le (sg := c / 4) h3 (by omega) (show i ≤ topN n by omega)
      have hp := pow4 i (by omega)
      have hy := cnt_le (emp ρ c) (wst (c / 4) i) (4 * 2 ^ i)
      have hll := least_lt (n := n) (i := i) (by omega)
      refine r_iload dX2_go_51 rfl ?_
      refine r_iload dX2_go_53 rfl ?_
      refine r_callS (As := [.int (nI (c / 4)), .int (nI i)]) (st := []) [] [0, 1, 2, 3, 4, 5, 6, 7, 8, 9] (fun _ => spW cA p K V C (h0) (w0) ++ (rowW cA q (emp ρ c))) [0, 1, 2, 3, 4, 5, 6, 7, 8, 9] (c_X2_windowStart l D cA cB (c / 4) (i) (by omega) (by omega)) ks_X2_windowStart ml_X2_45 dX2_go_55 rfl rfl rfl rfl rfl rfl (by decide) (fun _ => rfl) rfl rfl (Nat.le_of_ble_eq_true rfl) (fun v u h => ?_)
      subst h
      refine r_st (st' := [.int (nI (wst (c / 4) i))]) rfl ?_
      refine r_istore ([some (.ref (p 0)), some (.ref (q 0)), some (.int (nI c)), some (.int (ρ (95 + c))), some (.int (nI (c / 4))), some (.int (nI i)), some (.int (nI (wst (c / 4) i)))]) dX2_go_58 (Nat.le_of_ble_eq_true rfl) rfl rfl ?_
      refine r_aload_n 1 dX2_go_60 rfl rfl ?_
      refine r_iload dX2_go_61 rfl ?_
      refine r_iload dX2_go_63 rfl ?_
      refine r_callS (As := [.int (nI i)]) (st := [.int (nI (wst (c / 4) i)), .ref (q 0)]) [] [0, 1, 2, 3, 4, 5, 6, 7, 8, 9] (fun _ => spW cA p K V C (h0) (w0) ++ (rowW cA q (emp ρ c))) [0, 1, 2, 3, 4, 5, 6, 7, 8, 9] (c_X4_cellsOf l D cA cB (i) (by omega)) ks_X4_cellsOf ml_X2_49 dX2_go_65 rfl rfl rfl rfl rfl rfl (by decide) (fun _ => rfl) rfl rfl (Nat.le_of_ble_eq_true rfl) (fun v u h => ?_)
      subst h
      refine r_st (st' := [.int (nI (4 * 2 ^ i)), .int (nI (wst (c / 4) i)), .ref (q 0)]) rfl ?_
      refine r_callV (As := [.int (nI (wst (c / 4) i)), .int (nI (4 * 2 ^ i))]) (st := []) [4, 5, 6, 7, 8, 9] [0, 1, 2, 3] (fun _ => spW cA p K V C (h0) (w0) ++ (rowW cA q (emp ρ c))) [0, 1, 2, 3, 4, 5, 6, 7, 8, 9] (c_X1_keysIn l D cA cB q (emp ρ c) (wst (c / 4) i) (4 * 2 ^ i) (by omega)) kv_X1_keysIn ml_X2_52 dX2_go_68 rfl rfl rfl rfl rfl rfl rfl rfl (by decide) (fun _ => rfl) rfl rfl (Nat.le_of_ble_eq_true rfl) (fun v u h => ?_)
      subst h
      refine r_st (st' := [.int (nI (cnt (emp ρ c) (wst (c / 4) i) (4 * 2 ^ i)))]) rfl ?_
      refine r_aload_n 1 dX2_go_71 rfl rfl ?_
      refine r_iload dX2_go_72 rfl ?_
      refine r_callV (As := [.int (nI i)]) (st := [.int (nI (cnt (emp ρ c) (wst (c / 4) i) (4 * 2 ^ i)))]) [4, 5, 6, 7, 8, 9] [0, 1, 2, 3] (fun _ => spW cA p K V C (h0) (w0) ++ (rowW cA q (emp ρ c))) [0, 1, 2, 3, 4, 5, 6, 7, 8, 9] (c_X1_least l D cA cB q (emp ρ c) n (by unfold emp; rw [upd_n _ _ (by omega), upd_n _ _ (by omega)]; exact hsz) h3 (i) (by omega)) kv_X1_least ml_X2_85 dX2_go_74 rfl rfl rfl rfl rfl rfl rfl rfl (by decide) (fun _ => rfl) rfl rfl (Nat.le_of_ble_eq_true rfl) (fun v u h => ?_)
      subst h
      refine r_st (st' := [.int (nI (leastN n i)), .int (nI (cnt (emp ρ c) (wst (c / 4) i) (4 * 2 ^ i)))]) rfl ?_
      refine r_ncmp_lt 95 (by omega) (by omega) dX2_go_77 (by decide) (fun h3 => ?_) (fun h3 => ?_)
      · refine r_iinc (v := nI (i + 1)) ([some (.ref (p 0)), some (.ref (q 0)), some (.int (nI c)), some (.int (ρ (95 + c))), some (.int (nI (c / 4))), some (.int (nI (i + 1))), some (.int (nI (wst (c / 4) i)))]) dX2_go_95 rfl (nI_1 _) (Nat.le_of_ble_eq_true rfl) rfl rfl ?_
        refine r_goto 42 dX2_go_98 (by decide) ?_
        refine r_drop (lv' := [some (.ref (p 0)), some (.ref (q 0)), some (.int (nI c)), some (.int (ρ (95 + c))), some (.int (nI (c / 4))), some (.int (nI (i + 1))), none]) 6 rfl ?_
        exact ih (i + 1) (by omega) (by omega) (by omega) (by rw [← he, show topN n + 1 - i = (topN n - i) + 1 by omega, show topN n + 1 - (i + 1) = topN n - i by omega]; exact (if_neg (Nat.not_le.mpr h3)).symm)
      · refine r_aload_n 0 dX2_go_80 rfl rfl ?_
        refine r_aload_n 1 dX2_go_81 rfl rfl ?_
        refine r_iload dX2_go_82 rfl ?_
        refine r_iload dX2_go_84 rfl ?_
        refine r_callS (As := [.int (nI i)]) (st := [.int (nI (wst (c / 4) i)), .ref (q 0), .ref (p 0)]) [] [0, 1, 2, 3, 4, 5, 6, 7, 8, 9] (fun _ => spW cA p K V C (h0) (w0) ++ (rowW cA q (emp ρ c))) [0, 1, 2, 3, 4, 5, 6, 7, 8, 9] (c_X4_cellsOf l D cA cB (i) (by omega)) ks_X4_cellsOf ml_X2_49 dX2_go_86 rfl rfl rfl rfl rfl rfl (by decide) (fun _ => rfl) rfl rfl (Nat.le_of_ble_eq_true rfl) (fun v u h => ?_)
        subst h
        refine r_st (st' := [.int (nI (4 * 2 ^ i)), .int (nI (wst (c / 4) i)), .ref (q 0), .ref (p 0)]) rfl ?_
        refine r_callV (As := [.ref (q 0), .int (nI (wst (c / 4) i)), .int (nI (4 * 2 ^ i))]) (st := []) [0, 1, 2, 3, 4, 5, 6, 7, 8, 9] [] (fun u4 => spU cA p u4 ++ (rowW cA q (spR (emp ρ c) g (wst (c / 4) i) (4 * 2 ^ i)))) [0, 1, 2, 3, 4, 5, 6, 7, 8, 9] (c_X2_space l D cA cB p q (emp ρ c) K V C (h0) (w0) g (by unfold emp; rw [upd_n _ _ (by omega), upd_n _ _ (by omega)]; exact hg) hg8 (wst (c / 4) i) (4 * 2 ^ i) (by omega)) kv_X2_space ml_X2_88 dX2_go_89 rfl rfl rfl rfl rfl rfl rfl rfl (by decide) (fun _ => rfl) rfl rfl (Nat.le_of_ble_eq_true rfl) (fun v u4 h => ?_)
        subst h
        refine r_st (st' := [.int (nI (spM (emp ρ c) (wst (c / 4) i) (4 * 2 ^ i)))]) rfl ?_
        refine r_pop rfl dX2_go_92 ?_
        refine r_iload_n 3 dX2_go_93 rfl rfl ?_
        exact r_iret (u4.1, u4.2.1, u4.2.2.1, u4.2.2.2.1, u4.2.2.2.2) dX2_go_94 (rfl) (by have hso : gvF (emp ρ c) n (c / 4) (topN n) 1 = some i := (by rw [← he, show topN n + 1 - i = (topN n - i) + 1 by omega]; exact if_pos h3); unfold goR; rw [if_neg hb0, hso])

set_option maxRecDepth 100000 in
set_option maxHeartbeats 4000000 in
theorem c_X2_go (l : Launch) (D : va_G) (cA cB : ClassId) (p q : Nat → Nat) (ρ K V C : Nat → Int32) (h0 w0 : Int32) (g : Nat) (hg : ρ 6 = nI g) (hg8 : g ≤ 8) (n : Nat) (hsz : ρ 0 = nI n) (h3 : n = 16 ∨ n = 32 ∨ n = 64) (c : Nat) (hc : c < n) : Mt l D (tyS cA cB) yX2_go cX2_go 7 (some .int) ({ frames := 4, cells := 0, slots := 0, locals := 96 } : Room) [.ref (p 0), .ref (q 0), .int (nI c)] (spW cA p K V C (h0) (w0) ++ (rowW cA q ρ)) Sp5 (fun v _ => v = some (.int (ρ (95 + c)))) (fun u => spU cA p u ++ (rowW cA q (goR ρ n g c))) 0 0 := by
  refine mt_in RX2 ([some (.ref (p 0)), some (.ref (q 0)), some (.int (nI c)), none, none, none, none]) rfl (by decide +kernel) rfl (Nat.le_of_ble_eq_true rfl) rfl rfl (fun X sz => ?_)
  have hb : n ≤ 64 := by omega
  have ht := top_le (sz := n)
  refine r_aload_n 1 dX2_go_0 rfl rfl ?_
  refine r_iload_n 2 dX2_go_1 rfl rfl ?_
  refine r_callV (As := [.int (nI c)]) (st := []) [4, 5, 6, 7, 8, 9] [0, 1, 2, 3] (fun _ => spW cA p K V C (h0) (w0) ++ (rowW cA q ρ)) [0, 1, 2, 3, 4, 5, 6, 7, 8, 9] (c_X1_valueIn l D cA cB q ρ (c) (by omega)) kv_X1_valueIn ml_X2_78 dX2_go_2 rfl rfl rfl rfl rfl rfl rfl rfl (by decide) (fun _ => rfl) rfl rfl (Nat.le_of_ble_eq_true rfl) (fun v u h => ?_)
  subst h
  refine r_st (st' := [.int (ρ (95 + c))]) rfl ?_
  refine r_istore_n 3 ([some (.ref (p 0)), some (.ref (q 0)), some (.int (nI c)), some (.int (ρ (95 + c))), none, none, none]) dX2_go_5 rfl (Nat.le_of_ble_eq_true rfl) rfl rfl ?_
  refine r_aload_n 1 dX2_go_6 rfl rfl ?_
  refine r_iload_n 2 dX2_go_7 rfl rfl ?_
  refine r_iconst (-1) dX2_go_8 (by decide +kernel) ?_
  refine r_iconst (nI 0) dX2_go_9 (by decide +kernel) ?_
  refine r_callV (As := [.int (nI c), .int (-1), .int (nI 0)]) (st := []) [4, 5, 6, 7, 8, 9] [0, 1, 2, 3] (fun _ => spW cA p K V C (h0) (w0) ++ (rowW cA q (upd (upd ρ (31 + c) (-1)) (95 + c) (nI (0))))) [0, 1, 2, 3, 4, 5, 6, 7, 8, 9] (c_X1_fill l D cA cB q ρ (c) (by omega) (-1) (nI (0))) kv_X1_fill ml_X2_81 dX2_go_10 rfl rfl rfl rfl rfl rfl rfl rfl (by decide) (fun _ => rfl) rfl rfl (Nat.le_of_ble_eq_true rfl) (fun v u h => ?_)
  subst h
  refine r_st (st' := []) rfl ?_
  refine r_ws (ws' := spW cA p K V C (h0) (w0) ++ (rowW cA q (emp ρ c))) rfl ?_
  refine r_iload_n 2 dX2_go_13 rfl rfl ?_
  refine r_iconst (nI 4) dX2_go_14 (by decide +kernel) ?_
  refine r_nidiv (by omega) (by omega) (by omega) dX2_go_15 ?_
  refine r_istore ([some (.ref (p 0)), some (.ref (q 0)), some (.int (nI c)), some (.int (ρ (95 + c))), some (.int (nI (c / 4))), none, none]) dX2_go_16 (Nat.le_of_ble_eq_true rfl) rfl rfl ?_
  have hw := wst_le (sg := c / 4) (i := 0) h3 (by omega) (by omega)
  have hy := cnt_le (emp ρ c) (wst (c / 4) 0) 4
  have hll := least_lt (n := n) (i := 0) (by omega)
  refine r_aload_n 1 dX2_go_18 rfl rfl ?_
  refine r_iload dX2_go_19 rfl ?_
  refine r_iconst (nI 0) dX2_go_21 (by decide +kernel) ?_
  refine r_callS (As := [.int (nI (c / 4)), .int (nI 0)]) (st := [.ref (q 0)]) [] [0, 1, 2, 3, 4, 5, 6, 7, 8, 9] (fun _ => spW cA p K V C (h0) (w0) ++ (rowW cA q (emp ρ c))) [0, 1, 2, 3, 4, 5, 6, 7, 8, 9] (c_X2_windowStart l D cA cB (c / 4) (0) (by omega) (by omega)) ks_X2_windowStart ml_X2_45 dX2_go_22 rfl rfl rfl rfl rfl rfl (by decide) (fun _ => rfl) rfl rfl (Nat.le_of_ble_eq_true rfl) (fun v u h => ?_)
  subst h
  refine r_st (st' := [.int (nI (wst (c / 4) 0)), .ref (q 0)]) rfl ?_
  refine r_iconst (nI 4) dX2_go_25 (by decide +kernel) ?_
  refine r_callV (As := [.int (nI (wst (c / 4) 0)), .int (nI 4)]) (st := []) [4, 5, 6, 7, 8, 9] [0, 1, 2, 3] (fun _ => spW cA p K V C (h0) (w0) ++ (rowW cA q (emp ρ c))) [0, 1, 2, 3, 4, 5, 6, 7, 8, 9] (c_X1_keysIn l D cA cB q (emp ρ c) (wst (c / 4) 0) (4) (by omega)) kv_X1_keysIn ml_X2_52 dX2_go_26 rfl rfl rfl rfl rfl rfl rfl rfl (by decide) (fun _ => rfl) rfl rfl (Nat.le_of_ble_eq_true rfl) (fun v u h => ?_)
  subst h
  refine r_st (st' := [.int (nI (cnt (emp ρ c) (wst (c / 4) 0) 4))]) rfl ?_
  refine r_aload_n 1 dX2_go_29 rfl rfl ?_
  refine r_iconst (nI 0) dX2_go_30 (by decide +kernel) ?_
  refine r_callV (As := [.int (nI 0)]) (st := [.int (nI (cnt (emp ρ c) (wst (c / 4) 0) 4))]) [4, 5, 6, 7, 8, 9] [0, 1, 2, 3] (fun _ => spW cA p K V C (h0) (w0) ++ (rowW cA q (emp ρ c))) [0, 1, 2, 3, 4, 5, 6, 7, 8, 9] (c_X1_least l D cA cB q (emp ρ c) n (by unfold emp; rw [upd_n _ _ (by omega), upd_n _ _ (by omega)]; exact hsz) h3 (0) (by omega)) kv_X1_least ml_X2_85 dX2_go_31 rfl rfl rfl rfl rfl rfl rfl rfl (by decide) (fun _ => rfl) rfl rfl (Nat.le_of_ble_eq_true rfl) (fun v u h => ?_)
  subst h
  refine r_st (st' := [.int (nI (leastN n 0)), .int (nI (cnt (emp ρ c) (wst (c / 4) 0) 4))]) rfl ?_
  refine r_ncmp_lt 39 (by omega) (by omega) dX2_go_34 (by decide) (fun h1 => ?_) (fun h1 => ?_)
  · refine r_iconst (nI 1) dX2_go_39 (by decide +kernel) ?_
    refine r_istore ([some (.ref (p 0)), some (.ref (q 0)), some (.int (nI c)), some (.int (ρ (95 + c))), some (.int (nI (c / 4))), some (.int (nI 1)), none]) dX2_go_40 (Nat.le_of_ble_eq_true rfl) rfl rfl ?_
    exact lp_X2_go l D cA cB p q ρ K V C h0 w0 g hg hg8 n hsz h3 c hc X sz (Nat.not_le.mpr h1) (topN n + 2) 1 (by omega) (by omega) (by omega) rfl
  · refine r_iload_n 3 dX2_go_37 rfl rfl ?_
    exact r_iret (K, V, C, h0, w0) dX2_go_38 (rfl) (by unfold goR; rw [if_pos h1])
end
section
theorem lk_ne {x k : Int32} {z : Int} (h : ¬ x = k) (hz : k.toInt = z) : ¬ z = x.toInt := fun e => h (Int32.toInt_inj.mp (by rw [← e, hz]))
theorem lk_nil {d k : Int} : Op.lookupswitch.offset [] d k = d := rfl
theorem lk_cons {a o d k : Int} {r : List (Int × Int)} (h : ¬ a = k) (hr : Op.lookupswitch.offset r d k = d) : Op.lookupswitch.offset ((a, o) :: r) d k = d := by
  show (if a = k then o else Op.lookupswitch.offset r d k) = d
  rw [if_neg h]; exact hr
/-! THE READER: kind, first, second, open, orders, numbers, figures -/
abbrev RS : Type := Int32 × Int32 × Int32 × Bool × Nat × Nat × Nat
abbrev rdW (b : Nat) (kd f1 f2 : Int32) (op : Bool) (od nu fg : Nat) : va_W := [(b, .inr (0, [.int kd, .int f1, .int f2, .int (bI op), .int (nI od), .int (nI nu), .int (nI fg)]))]
abbrev rdZ (b : Nat) (z : RS) : va_W := rdW b z.1 z.2.1 z.2.2.1 z.2.2.2.1 z.2.2.2.2.1 z.2.2.2.2.2.1 z.2.2.2.2.2.2
def numOf (c : Int32) : Nat := if c = 100 then 2 else if c = 109 then 1 else if c = 112 then 2 else if c = 116 then 1 else 0
theorem numOf_le (c : Int32) : numOf c ≤ 2 := by
  unfold numOf
  split
  · omega
  · split
    · omega
    · split
      · omega
      · split <;> omega
def kindF (z : RS) (c : Int32) : Int32 × RS := if numOf c = 0 then (0, z) else (1, (c, 0, 0, true, z.2.2.2.2.1, 0, 0))
def figF (kd f1 f2 : Int32) (op : Bool) (od nu fg : Nat) (d : Int32) : Int32 × RS :=
  if fg = 0 then (if nu = numOf kd then (0, (kd, f1, f2, op, od, nu, fg)) else if nu + 1 = 1 then (1, (kd, nI 10 * f1 + d, f2, op, od, nu + 1, fg + 1)) else (1, (kd, f1, nI 10 * f2 + d, op, od, nu + 1, fg + 1)))
  else if fg = 3 then (0, (kd, f1, f2, op, od, nu, fg)) else if nu = 1 then (1, (kd, nI 10 * f1 + d, f2, op, od, nu, fg + 1)) else (1, (kd, f1, nI 10 * f2 + d, op, od, nu, fg + 1))
def takeF (kd f1 f2 : Int32) (op : Bool) (od nu fg : Nat) (c : Int32) : Int32 × RS :=
  if c = nI 32 then (1, (kd, f1, f2, op, od, nu, 0)) else if op = false then kindF (kd, f1, f2, op, od, nu, fg) c else if nI 48 ≤ c ∧ c ≤ nI 57 then figF kd f1 f2 op od nu fg (c - nI 48) else if c = nI 59 ∧ nu = numOf kd then (2, (kd, f1, f2, false, od + 1, nu, fg)) else (0, (kd, f1, f2, op, od, nu, fg))
end
section
set_option maxRecDepth 100000 in
set_option maxHeartbeats 4000000 in
theorem c_X0_numbersOf (l : Launch) (D : va_G) (cA cB : ClassId) (c : Int32) : Mt l D (tyS cA cB) yX0_numbersOf cX0_numbersOf 1 (some .int) ({ frames := 0, cells := 0, slots := 0, locals := 0 } : Room) [.int (c)] ([]) Unit (fun v _ => v = some (.int (nI (numOf c)))) (fun _ => []) 0 0 := by
  refine mt_in RX0 ([some (.int (c))]) rfl (by decide +kernel) rfl (Nat.le_of_ble_eq_true rfl) rfl rfl (fun X sz => ?_)
  refine r_iload_n 0 dX0_numbersOf_0 rfl rfl ?_
  by_cases h1 : c = 100
  · refine r_lookup (off := 43) 44 dX0_numbersOf_1 (by decide +kernel) (by rw [h1]; decide +kernel) (by decide) ?_
    refine r_iconst (nI 2) dX0_numbersOf_44 (by decide +kernel) ?_
    exact r_iret () dX0_numbersOf_45 (by unfold numOf; rw [h1]; rfl) (rfl)
  by_cases h2 : c = 109
  · refine r_lookup (off := 45) 46 dX0_numbersOf_1 (by decide +kernel) (by rw [h2]; decide +kernel) (by decide) ?_
    refine r_iconst (nI 1) dX0_numbersOf_46 (by decide +kernel) ?_
    exact r_iret () dX0_numbersOf_47 (by unfold numOf; rw [h2]; rfl) (rfl)
  by_cases h3 : c = 112
  · refine r_lookup (off := 43) 44 dX0_numbersOf_1 (by decide +kernel) (by rw [h3]; decide +kernel) (by decide) ?_
    refine r_iconst (nI 2) dX0_numbersOf_44 (by decide +kernel) ?_
    exact r_iret () dX0_numbersOf_45 (by unfold numOf; rw [h3]; rfl) (rfl)
  by_cases h4 : c = 116
  · refine r_lookup (off := 45) 46 dX0_numbersOf_1 (by decide +kernel) (by rw [h4]; decide +kernel) (by decide) ?_
    refine r_iconst (nI 1) dX0_numbersOf_46 (by decide +kernel) ?_
    exact r_iret () dX0_numbersOf_47 (by unfold numOf; rw [h4]; rfl) (rfl)
  refine r_lookup (off := 47) 48 dX0_numbersOf_1 (by decide +kernel) (lk_cons (lk_ne h1 (by decide +kernel)) (lk_cons (lk_ne h2 (by decide +kernel)) (lk_cons (lk_ne h3 (by decide +kernel)) (lk_cons (lk_ne h4 (by decide +kernel)) (lk_nil))))) (by decide) ?_
  refine r_iconst (nI 0) dX0_numbersOf_48 (by decide +kernel) ?_
  exact r_iret () dX0_numbersOf_49 (by unfold numOf; rw [if_neg h1, if_neg h2, if_neg h3, if_neg h4]) (rfl)

set_option maxRecDepth 100000 in
set_option maxHeartbeats 4000000 in
theorem c_X0_begin (l : Launch) (D : va_G) (cA cB : ClassId) (b : Nat) (kd f1 f2 : Int32) (op : Bool) (od nu fg : Nat) : Mt l D (tyS cA cB) yX0_begin cX0_begin 1 none ({ frames := 0, cells := 0, slots := 0, locals := 0 } : Room) [.ref (b)] (rdW b kd f1 f2 op od nu fg) Unit (fun v _ => v = none) (fun _ => rdW b kd f1 f2 false 0 nu fg) 0 0 := by
  refine mt_in RX0 ([some (.ref (b))]) rfl (by decide +kernel) rfl (Nat.le_of_ble_eq_true rfl) rfl rfl (fun X sz => ?_)
  refine r_aload_n 0 dX0_begin_0 rfl rfl ?_
  refine r_iconst (nI 0) dX0_begin_1 (by decide +kernel) ?_
  refine r_put 0 ([(b, .inr (0, [.int (kd), .int (f1), .int (f2), .int (nI 0), .int (nI od), .int (nI nu), .int (nI fg)]))]) fk_X0_9 dX0_begin_2 rfl rfl (by decide +kernel) rfl (Nat.le_of_ble_eq_true rfl) rfl ?_
  refine r_aload_n 0 dX0_begin_5 rfl rfl ?_
  refine r_iconst (nI 0) dX0_begin_6 (by decide +kernel) ?_
  refine r_put 0 ([(b, .inr (0, [.int (kd), .int (f1), .int (f2), .int (nI 0), .int (nI 0), .int (nI nu), .int (nI fg)]))]) fk_X0_15 dX0_begin_7 rfl rfl rfl rfl (Nat.le_of_ble_eq_true rfl) rfl ?_
  exact r_vret () dX0_begin_10 (rfl) (rfl)

set_option maxRecDepth 100000 in
set_option maxHeartbeats 4000000 in
theorem c_X0_mayEnd (l : Launch) (D : va_G) (cA cB : ClassId) (b : Nat) (kd f1 f2 : Int32) (op : Bool) (od nu fg : Nat) (hod : od < 1000) : Mt l D (tyS cA cB) yX0_mayEnd cX0_mayEnd 1 (some .boolean) ({ frames := 0, cells := 0, slots := 0, locals := 0 } : Room) [.ref (b)] (rdW b kd f1 f2 op od nu fg) Unit (fun v _ => v = some (.int (bI (!op && decide (0 < od))))) (fun _ => rdW b kd f1 f2 op od nu fg) 0 0 := by
  refine mt_in RX0 ([some (.ref (b))]) rfl (by decide +kernel) rfl (Nat.le_of_ble_eq_true rfl) rfl rfl (fun X sz => ?_)
  refine r_aload_n 0 dX0_mayEnd_0 rfl rfl ?_
  refine r_get 0 fk_X0_9 dX0_mayEnd_1 rfl rfl ?_
  refine r_bif_ne 18 dX0_mayEnd_4 (by decide) (fun h1 => ?_) (fun h1 => ?_)
  · refine r_iconst (nI 0) dX0_mayEnd_18 (by decide +kernel) ?_
    exact r_zret () (by decide +kernel) dX0_mayEnd_19 (by rw [h1]; rfl) (rfl)
  · refine r_aload_n 0 dX0_mayEnd_7 rfl rfl ?_
    refine r_get 0 fk_X0_15 dX0_mayEnd_8 rfl rfl ?_
    refine r_if_le 18 dX0_mayEnd_11 (by decide) (fun h2 => ?_) (fun h2 => ?_)
    · refine r_iconst (nI 0) dX0_mayEnd_18 (by decide +kernel) ?_
      exact r_zret () (by decide +kernel) dX0_mayEnd_19 (by rw [h1, decide_eq_false (fun z => by have := (nI_le_iff (a := od) (b := 0) (by omega) (by decide)).mp h2; omega)]; rfl) (rfl)
    · refine r_iconst (nI 1) dX0_mayEnd_14 (by decide +kernel) ?_
      refine r_goto 19 dX0_mayEnd_15 (by decide) ?_
      exact r_zret () (by decide +kernel) dX0_mayEnd_19 (by rw [h1, decide_eq_true (by rcases Nat.eq_zero_or_pos od with z | z; exact absurd (by rw [z]; exact Int32.le_refl _) h2; exact z)]; rfl) (rfl)

set_option maxRecDepth 100000 in
set_option maxHeartbeats 4000000 in
theorem c_X0_takeKind (l : Launch) (D : va_G) (cA cB : ClassId) (b : Nat) (kd f1 f2 : Int32) (op : Bool) (od nu fg : Nat) (c : Int32) : Mt l D (tyS cA cB) yX0_takeKind cX0_takeKind 2 (some .int) ({ frames := 1, cells := 0, slots := 0, locals := 20 } : Room) [.ref (b), .int (c)] (rdW b kd f1 f2 op od nu fg) Unit (fun v _ => v = some (.int (kindF (kd, f1, f2, op, od, nu, fg) c).1)) (fun _ => rdZ b (kindF (kd, f1, f2, op, od, nu, fg) c).2) 0 0 := by
  refine mt_in RX0 ([some (.ref (b)), some (.int (c))]) rfl (by decide +kernel) rfl (Nat.le_of_ble_eq_true rfl) rfl rfl (fun X sz => ?_)
  refine r_iload_n 1 dX0_takeKind_0 rfl rfl ?_
  refine r_callS (As := [.int (c)]) (st := []) [] [0] (fun _ => rdW b kd f1 f2 op od nu fg) [0] (c_X0_numbersOf l D cA cB (c)) ks_X0_numbersOf ml_X0_35 dX0_takeKind_1 rfl rfl rfl rfl rfl rfl (by decide) (fun _ => rfl) rfl rfl (Nat.le_of_ble_eq_true rfl) (fun v u h => ?_)
  subst h
  refine r_st (st' := [.int (nI (numOf c))]) rfl ?_
  refine r_if_ne 9 dX0_takeKind_4 (by decide) (fun h1 => ?_) (fun h1 => ?_)
  · refine r_aload_n 0 dX0_takeKind_9 rfl rfl ?_
    refine r_iconst (nI 1) dX0_takeKind_10 (by decide +kernel) ?_
    refine r_put 0 ([(b, .inr (0, [.int (kd), .int (f1), .int (f2), .int (nI 1), .int (nI od), .int (nI nu), .int (nI fg)]))]) fk_X0_9 dX0_takeKind_11 rfl rfl (by decide +kernel) rfl (Nat.le_of_ble_eq_true rfl) rfl ?_
    refine r_aload_n 0 dX0_takeKind_14 rfl rfl ?_
    refine r_iload_n 1 dX0_takeKind_15 rfl rfl ?_
    refine r_put 0 ([(b, .inr (0, [.int (c), .int (f1), .int (f2), .int (nI 1), .int (nI od), .int (nI nu), .int (nI fg)]))]) fk_X0_32 dX0_takeKind_16 rfl rfl rfl rfl (Nat.le_of_ble_eq_true rfl) rfl ?_
    refine r_aload_n 0 dX0_takeKind_19 rfl rfl ?_
    refine r_iconst (nI 0) dX0_takeKind_20 (by decide +kernel) ?_
    refine r_put 0 ([(b, .inr (0, [.int (c), .int (nI 0), .int (f2), .int (nI 1), .int (nI od), .int (nI nu), .int (nI fg)]))]) fk_X0_38 dX0_takeKind_21 rfl rfl rfl rfl (Nat.le_of_ble_eq_true rfl) rfl ?_
    refine r_aload_n 0 dX0_takeKind_24 rfl rfl ?_
    refine r_iconst (nI 0) dX0_takeKind_25 (by decide +kernel) ?_
    refine r_put 0 ([(b, .inr (0, [.int (c), .int (nI 0), .int (nI 0), .int (nI 1), .int (nI od), .int (nI nu), .int (nI fg)]))]) fk_X0_41 dX0_takeKind_26 rfl rfl rfl rfl (Nat.le_of_ble_eq_true rfl) rfl ?_
    refine r_aload_n 0 dX0_takeKind_29 rfl rfl ?_
    refine r_iconst (nI 0) dX0_takeKind_30 (by decide +kernel) ?_
    refine r_put 0 ([(b, .inr (0, [.int (c), .int (nI 0), .int (nI 0), .int (nI 1), .int (nI od), .int (nI 0), .int (nI fg)]))]) fk_X0_29 dX0_takeKind_31 rfl rfl rfl rfl (Nat.le_of_ble_eq_true rfl) rfl ?_
    refine r_aload_n 0 dX0_takeKind_34 rfl rfl ?_
    refine r_iconst (nI 0) dX0_takeKind_35 (by decide +kernel) ?_
    refine r_put 0 ([(b, .inr (0, [.int (c), .int (nI 0), .int (nI 0), .int (nI 1), .int (nI od), .int (nI 0), .int (nI 0)]))]) fk_X0_19 dX0_takeKind_36 rfl rfl rfl rfl (Nat.le_of_ble_eq_true rfl) rfl ?_
    refine r_iconst (nI 1) dX0_takeKind_39 (by decide +kernel) ?_
    exact r_iret () dX0_takeKind_40 (by unfold kindF; rw [if_neg (fun z => h1 (by rw [z]; rfl))] <;> rfl) (by unfold kindF; rw [if_neg (fun z => h1 (by rw [z]; rfl))] <;> rfl)
  · refine r_iconst (nI 0) dX0_takeKind_7 (by decide +kernel) ?_
    exact r_iret () dX0_takeKind_8 (by unfold kindF; rw [if_pos ((nI_inj (b := 0) (by have := numOf_le c; omega) (by decide)).mp h1)] <;> rfl) (by unfold kindF; rw [if_pos ((nI_inj (b := 0) (by have := numOf_le c; omega) (by decide)).mp h1)] <;> rfl)

set_option maxRecDepth 100000 in
set_option maxHeartbeats 4000000 in
theorem c_X0_takeFigure (l : Launch) (D : va_G) (cA cB : ClassId) (b : Nat) (kd f1 f2 : Int32) (op : Bool) (od nu fg : Nat) (hod : od < 1000) (hnu : nu < 1000) (hfg : fg < 1000) (d : Int32) : Mt l D (tyS cA cB) yX0_takeFigure cX0_takeFigure 2 (some .int) ({ frames := 1, cells := 0, slots := 0, locals := 20 } : Room) [.ref (b), .int (d)] (rdW b kd f1 f2 op od nu fg) Unit (fun v _ => v = some (.int (figF kd f1 f2 op od nu fg d).1)) (fun _ => rdZ b (figF kd f1 f2 op od nu fg d).2) 0 0 := by
  refine mt_in RX0 ([some (.ref (b)), some (.int (d))]) rfl (by decide +kernel) rfl (Nat.le_of_ble_eq_true rfl) rfl rfl (fun X sz => ?_)
  have hk := numOf_le kd
  refine r_aload_n 0 dX0_takeFigure_0 rfl rfl ?_
  refine r_get 0 fk_X0_19 dX0_takeFigure_1 rfl rfl ?_
  refine r_if_ne 33 dX0_takeFigure_4 (by decide) (fun h1 => ?_) (fun h1 => ?_)
  · refine r_aload_n 0 dX0_takeFigure_33 rfl rfl ?_
    refine r_get 0 fk_X0_19 dX0_takeFigure_34 rfl rfl ?_
    refine r_iconst (nI 3) dX0_takeFigure_37 (by decide +kernel) ?_
    refine r_ncmp_ne 43 (by omega) (by omega) dX0_takeFigure_38 (by decide) (fun h2 => ?_) (fun h2 => ?_)
    · refine r_aload_n 0 dX0_takeFigure_43 rfl rfl ?_
      refine r_dup rfl dX0_takeFigure_44 ?_
      refine r_get 0 fk_X0_19 dX0_takeFigure_45 rfl rfl ?_
      refine r_iconst (nI 1) dX0_takeFigure_48 (by decide +kernel) ?_
      refine r_niadd dX0_takeFigure_49 ?_
      refine r_put 0 ([(b, .inr (0, [.int (kd), .int (f1), .int (f2), .int (bI (op)), .int (nI od), .int (nI nu), .int (nI (fg + 1))]))]) fk_X0_19 dX0_takeFigure_50 rfl rfl rfl rfl (Nat.le_of_ble_eq_true rfl) rfl ?_
      refine r_aload_n 0 dX0_takeFigure_53 rfl rfl ?_
      refine r_get 0 fk_X0_29 dX0_takeFigure_54 rfl rfl ?_
      refine r_iconst (nI 1) dX0_takeFigure_57 (by decide +kernel) ?_
      refine r_ncmp_ne 77 (by omega) (by omega) dX0_takeFigure_58 (by decide) (fun h3 => ?_) (fun h3 => ?_)
      · refine r_aload_n 0 dX0_takeFigure_77 rfl rfl ?_
        refine r_bipush (nI 10) dX0_takeFigure_78 (by decide +kernel) ?_
        refine r_aload_n 0 dX0_takeFigure_80 rfl rfl ?_
        refine r_get 0 fk_X0_41 dX0_takeFigure_81 rfl rfl ?_
        refine r_imul dX0_takeFigure_84 ?_
        refine r_iload_n 1 dX0_takeFigure_85 rfl rfl ?_
        refine r_iadd dX0_takeFigure_86 ?_
        refine r_put 0 ([(b, .inr (0, [.int (kd), .int (f1), .int (((nI (10)) * f2) + d), .int (bI (op)), .int (nI od), .int (nI nu), .int (nI (fg + 1))]))]) fk_X0_41 dX0_takeFigure_87 rfl rfl rfl rfl (Nat.le_of_ble_eq_true rfl) rfl ?_
        refine r_iconst (nI 1) dX0_takeFigure_90 (by decide +kernel) ?_
        exact r_iret () dX0_takeFigure_91 (by unfold figF; rw [if_neg (fun z => h1 (by rw [z]; rfl)), if_neg h2, if_neg h3] <;> rfl) (by unfold figF; rw [if_neg (fun z => h1 (by rw [z]; rfl)), if_neg h2, if_neg h3] <;> rfl)
      · refine r_aload_n 0 dX0_takeFigure_61 rfl rfl ?_
        refine r_bipush (nI 10) dX0_takeFigure_62 (by decide +kernel) ?_
        refine r_aload_n 0 dX0_takeFigure_64 rfl rfl ?_
        refine r_get 0 fk_X0_38 dX0_takeFigure_65 rfl rfl ?_
        refine r_imul dX0_takeFigure_68 ?_
        refine r_iload_n 1 dX0_takeFigure_69 rfl rfl ?_
        refine r_iadd dX0_takeFigure_70 ?_
        refine r_put 0 ([(b, .inr (0, [.int (kd), .int (((nI (10)) * f1) + d), .int (f2), .int (bI (op)), .int (nI od), .int (nI nu), .int (nI (fg + 1))]))]) fk_X0_38 dX0_takeFigure_71 rfl rfl rfl rfl (Nat.le_of_ble_eq_true rfl) rfl ?_
        refine r_goto 90 dX0_takeFigure_74 (by decide) ?_
        refine r_iconst (nI 1) dX0_takeFigure_90 (by decide +kernel) ?_
        exact r_iret () dX0_takeFigure_91 (by unfold figF; rw [if_neg (fun z => h1 (by rw [z]; rfl)), if_neg h2, if_pos h3] <;> rfl) (by unfold figF; rw [if_neg (fun z => h1 (by rw [z]; rfl)), if_neg h2, if_pos h3] <;> rfl)
    · refine r_iconst (nI 0) dX0_takeFigure_41 (by decide +kernel) ?_
      exact r_iret () dX0_takeFigure_42 (by unfold figF; rw [if_neg (fun z => h1 (by rw [z]; rfl)), if_pos h2] <;> rfl) (by unfold figF; rw [if_neg (fun z => h1 (by rw [z]; rfl)), if_pos h2] <;> rfl)
  · refine r_aload_n 0 dX0_takeFigure_7 rfl rfl ?_
    refine r_get 0 fk_X0_29 dX0_takeFigure_8 rfl rfl ?_
    refine r_aload_n 0 dX0_takeFigure_11 rfl rfl ?_
    refine r_get 0 fk_X0_32 dX0_takeFigure_12 rfl rfl ?_
    refine r_callS (As := [.int (kd)]) (st := [.int (nI nu)]) [] [0] (fun _ => rdW b kd f1 f2 op od nu fg) [0] (c_X0_numbersOf l D cA cB (kd)) ks_X0_numbersOf ml_X0_35 dX0_takeFigure_15 rfl rfl rfl rfl rfl rfl (by decide) (fun _ => rfl) rfl rfl (Nat.le_of_ble_eq_true rfl) (fun v u h => ?_)
    subst h
    refine r_st (st' := [.int (nI (numOf kd)), .int (nI nu)]) rfl ?_
    refine r_ncmp_ne 23 (by omega) (by omega) dX0_takeFigure_18 (by decide) (fun h4 => ?_) (fun h4 => ?_)
    · refine r_aload_n 0 dX0_takeFigure_23 rfl rfl ?_
      refine r_dup rfl dX0_takeFigure_24 ?_
      refine r_get 0 fk_X0_29 dX0_takeFigure_25 rfl rfl ?_
      refine r_iconst (nI 1) dX0_takeFigure_28 (by decide +kernel) ?_
      refine r_niadd dX0_takeFigure_29 ?_
      refine r_put 0 ([(b, .inr (0, [.int (kd), .int (f1), .int (f2), .int (bI (op)), .int (nI od), .int (nI (nu + 1)), .int (nI fg)]))]) fk_X0_29 dX0_takeFigure_30 rfl rfl rfl rfl (Nat.le_of_ble_eq_true rfl) rfl ?_
      refine r_aload_n 0 dX0_takeFigure_33 rfl rfl ?_
      refine r_get 0 fk_X0_19 dX0_takeFigure_34 rfl rfl ?_
      refine r_iconst (nI 3) dX0_takeFigure_37 (by decide +kernel) ?_
      refine r_ncmp_ne 43 (by omega) (by omega) dX0_takeFigure_38 (by decide) (fun h5 => ?_) (fun h5 => ?_)
      · refine r_aload_n 0 dX0_takeFigure_43 rfl rfl ?_
        refine r_dup rfl dX0_takeFigure_44 ?_
        refine r_get 0 fk_X0_19 dX0_takeFigure_45 rfl rfl ?_
        refine r_iconst (nI 1) dX0_takeFigure_48 (by decide +kernel) ?_
        refine r_niadd dX0_takeFigure_49 ?_
        refine r_put 0 ([(b, .inr (0, [.int (kd), .int (f1), .int (f2), .int (bI (op)), .int (nI od), .int (nI (nu + 1)), .int (nI (fg + 1))]))]) fk_X0_19 dX0_takeFigure_50 rfl rfl rfl rfl (Nat.le_of_ble_eq_true rfl) rfl ?_
        refine r_aload_n 0 dX0_takeFigure_53 rfl rfl ?_
        refine r_get 0 fk_X0_29 dX0_takeFigure_54 rfl rfl ?_
        refine r_iconst (nI 1) dX0_takeFigure_57 (by decide +kernel) ?_
        refine r_ncmp_ne 77 (by omega) (by omega) dX0_takeFigure_58 (by decide) (fun h6 => ?_) (fun h6 => ?_)
        · refine r_aload_n 0 dX0_takeFigure_77 rfl rfl ?_
          refine r_bipush (nI 10) dX0_takeFigure_78 (by decide +kernel) ?_
          refine r_aload_n 0 dX0_takeFigure_80 rfl rfl ?_
          refine r_get 0 fk_X0_41 dX0_takeFigure_81 rfl rfl ?_
          refine r_imul dX0_takeFigure_84 ?_
          refine r_iload_n 1 dX0_takeFigure_85 rfl rfl ?_
          refine r_iadd dX0_takeFigure_86 ?_
          refine r_put 0 ([(b, .inr (0, [.int (kd), .int (f1), .int (((nI (10)) * f2) + d), .int (bI (op)), .int (nI od), .int (nI (nu + 1)), .int (nI (fg + 1))]))]) fk_X0_41 dX0_takeFigure_87 rfl rfl rfl rfl (Nat.le_of_ble_eq_true rfl) rfl ?_
          refine r_iconst (nI 1) dX0_takeFigure_90 (by decide +kernel) ?_
          exact r_iret () dX0_takeFigure_91 (by unfold figF; rw [if_pos ((nI_inj (b := 0) (by omega) (by decide)).mp h1), if_neg h4, if_neg h6] <;> rfl) (by unfold figF; rw [if_pos ((nI_inj (b := 0) (by omega) (by decide)).mp h1), if_neg h4, if_neg h6] <;> rfl)
        · refine r_aload_n 0 dX0_takeFigure_61 rfl rfl ?_
          refine r_bipush (nI 10) dX0_takeFigure_62 (by decide +kernel) ?_
          refine r_aload_n 0 dX0_takeFigure_64 rfl rfl ?_
          refine r_get 0 fk_X0_38 dX0_takeFigure_65 rfl rfl ?_
          refine r_imul dX0_takeFigure_68 ?_
          refine r_iload_n 1 dX0_takeFigure_69 rfl rfl ?_
          refine r_iadd dX0_takeFigure_70 ?_
          refine r_put 0 ([(b, .inr (0, [.int (kd), .int (((nI (10)) * f1) + d), .int (f2), .int (bI (op)), .int (nI od), .int (nI (nu + 1)), .int (nI (fg + 1))]))]) fk_X0_38 dX0_takeFigure_71 rfl rfl rfl rfl (Nat.le_of_ble_eq_true rfl) rfl ?_
          refine r_goto 90 dX0_takeFigure_74 (by decide) ?_
          refine r_iconst (nI 1) dX0_takeFigure_90 (by decide +kernel) ?_
          exact r_iret () dX0_takeFigure_91 (by unfold figF; rw [if_pos ((nI_inj (b := 0) (by omega) (by decide)).mp h1), if_neg h4, if_pos h6] <;> rfl) (by unfold figF; rw [if_pos ((nI_inj (b := 0) (by omega) (by decide)).mp h1), if_neg h4, if_pos h6] <;> rfl)
      · exact absurd ((nI_inj (b := 0) (by omega) (by decide)).mp h1) (by omega)
    · refine r_iconst (nI 0) dX0_takeFigure_21 (by decide +kernel) ?_
      exact r_iret () dX0_takeFigure_22 (by unfold figF; rw [if_pos ((nI_inj (b := 0) (by omega) (by decide)).mp h1), if_pos h4] <;> rfl) (by unfold figF; rw [if_pos ((nI_inj (b := 0) (by omega) (by decide)).mp h1), if_pos h4] <;> rfl)

set_option maxRecDepth 100000 in
set_option maxHeartbeats 4000000 in
theorem c_X0_take (l : Launch) (D : va_G) (cA cB : ClassId) (b : Nat) (kd f1 f2 : Int32) (op : Bool) (od nu fg : Nat) (hod : od < 1000) (hnu : nu < 1000) (hfg : fg < 1000) (c : Int32) : Mt l D (tyS cA cB) yX0_take cX0_take 2 (some .int) ({ frames := 2, cells := 0, slots := 0, locals := 41 } : Room) [.ref (b), .int (c)] (rdW b kd f1 f2 op od nu fg) Unit (fun v _ => v = some (.int (takeF kd f1 f2 op od nu fg c).1)) (fun _ => rdZ b (takeF kd f1 f2 op od nu fg c).2) 0 0 := by
  refine mt_in RX0 ([some (.ref (b)), some (.int (c))]) rfl (by decide +kernel) rfl (Nat.le_of_ble_eq_true rfl) rfl rfl (fun X sz => ?_)
  have hk := numOf_le kd
  refine r_iload_n 1 dX0_take_0 rfl rfl ?_
  refine r_bipush (nI 32) dX0_take_1 (by decide +kernel) ?_
  refine r_icmp_ne 13 dX0_take_3 (by decide) (fun h1 => ?_) (fun h1 => ?_)
  · refine r_aload_n 0 dX0_take_13 rfl rfl ?_
    refine r_get 0 fk_X0_9 dX0_take_14 rfl rfl ?_
    refine r_bif_ne 26 dX0_take_17 (by decide) (fun h2 => ?_) (fun h2 => ?_)
    · refine r_iload_n 1 dX0_take_26 rfl rfl ?_
      refine r_bipush (nI 48) dX0_take_27 (by decide +kernel) ?_
      refine r_icmp_lt 47 dX0_take_29 (by decide) (fun h3 => ?_) (fun h3 => ?_)
      · refine r_iload_n 1 dX0_take_47 rfl rfl ?_
        refine r_bipush (nI 59) dX0_take_48 (by decide +kernel) ?_
        refine r_icmp_ne 67 dX0_take_50 (by decide) (fun h4 => ?_) (fun h4 => ?_)
        · refine r_iconst (nI 0) dX0_take_67 (by decide +kernel) ?_
          exact r_iret () dX0_take_68 (by unfold takeF; rw [if_neg h1, if_neg (by rw [h2]; decide), if_neg (fun z => Int32.not_lt.mpr z.1 h3), if_neg (fun z => h4 z.1)] <;> rfl) (by unfold takeF; rw [if_neg h1, if_neg (by rw [h2]; decide), if_neg (fun z => Int32.not_lt.mpr z.1 h3), if_neg (fun z => h4 z.1)] <;> rfl)
        · refine r_aload_n 0 dX0_take_53 rfl rfl ?_
          refine r_get 0 fk_X0_29 dX0_take_54 rfl rfl ?_
          refine r_aload_n 0 dX0_take_57 rfl rfl ?_
          refine r_get 0 fk_X0_32 dX0_take_58 rfl rfl ?_
          refine r_callS (As := [.int (kd)]) (st := [.int (nI nu)]) [] [0] (fun _ => rdW b kd f1 f2 op od nu fg) [0] (c_X0_numbersOf l D cA cB (kd)) ks_X0_numbersOf ml_X0_35 dX0_take_61 rfl rfl rfl rfl rfl rfl (by decide) (fun _ => rfl) rfl rfl (Nat.le_of_ble_eq_true rfl) (fun v u h => ?_)
          subst h
          refine r_st (st' := [.int (nI (numOf kd)), .int (nI nu)]) rfl ?_
          refine r_ncmp_eq 69 (by omega) (by omega) dX0_take_64 (by decide) (fun h5 => ?_) (fun h5 => ?_)
          · refine r_aload_n 0 dX0_take_69 rfl rfl ?_
            refine r_iconst (nI 0) dX0_take_70 (by decide +kernel) ?_
            refine r_put 0 ([(b, .inr (0, [.int (kd), .int (f1), .int (f2), .int (nI 0), .int (nI od), .int (nI nu), .int (nI fg)]))]) fk_X0_9 dX0_take_71 rfl rfl (by decide +kernel) rfl (Nat.le_of_ble_eq_true rfl) rfl ?_
            refine r_aload_n 0 dX0_take_74 rfl rfl ?_
            refine r_dup rfl dX0_take_75 ?_
            refine r_get 0 fk_X0_15 dX0_take_76 rfl rfl ?_
            refine r_iconst (nI 1) dX0_take_79 (by decide +kernel) ?_
            refine r_niadd dX0_take_80 ?_
            refine r_put 0 ([(b, .inr (0, [.int (kd), .int (f1), .int (f2), .int (nI 0), .int (nI (od + 1)), .int (nI nu), .int (nI fg)]))]) fk_X0_15 dX0_take_81 rfl rfl rfl rfl (Nat.le_of_ble_eq_true rfl) rfl ?_
            refine r_iconst (nI 2) dX0_take_84 (by decide +kernel) ?_
            exact r_iret () dX0_take_85 (by unfold takeF; rw [if_neg h1, if_neg (by rw [h2]; decide), if_neg (fun z => Int32.not_lt.mpr z.1 h3), if_pos ⟨h4, h5⟩] <;> rfl) (by unfold takeF; rw [if_neg h1, if_neg (by rw [h2]; decide), if_neg (fun z => Int32.not_lt.mpr z.1 h3), if_pos ⟨h4, h5⟩] <;> rfl)
          · refine r_iconst (nI 0) dX0_take_67 (by decide +kernel) ?_
            exact r_iret () dX0_take_68 (by unfold takeF; rw [if_neg h1, if_neg (by rw [h2]; decide), if_neg (fun z => Int32.not_lt.mpr z.1 h3), if_neg (fun z => h5 z.2)] <;> rfl) (by unfold takeF; rw [if_neg h1, if_neg (by rw [h2]; decide), if_neg (fun z => Int32.not_lt.mpr z.1 h3), if_neg (fun z => h5 z.2)] <;> rfl)
      · refine r_iload_n 1 dX0_take_32 rfl rfl ?_
        refine r_bipush (nI 57) dX0_take_33 (by decide +kernel) ?_
        refine r_icmp_gt 47 dX0_take_35 (by decide) (fun h6 => ?_) (fun h6 => ?_)
        · refine r_iload_n 1 dX0_take_47 rfl rfl ?_
          refine r_bipush (nI 59) dX0_take_48 (by decide +kernel) ?_
          refine r_icmp_ne 67 dX0_take_50 (by decide) (fun h7 => ?_) (fun h7 => ?_)
          · refine r_iconst (nI 0) dX0_take_67 (by decide +kernel) ?_
            exact r_iret () dX0_take_68 (by unfold takeF; rw [if_neg h1, if_neg (by rw [h2]; decide), if_neg (fun z => Int32.not_lt.mpr z.2 h6), if_neg (fun z => h7 z.1)] <;> rfl) (by unfold takeF; rw [if_neg h1, if_neg (by rw [h2]; decide), if_neg (fun z => Int32.not_lt.mpr z.2 h6), if_neg (fun z => h7 z.1)] <;> rfl)
          · refine r_aload_n 0 dX0_take_53 rfl rfl ?_
            refine r_get 0 fk_X0_29 dX0_take_54 rfl rfl ?_
            refine r_aload_n 0 dX0_take_57 rfl rfl ?_
            refine r_get 0 fk_X0_32 dX0_take_58 rfl rfl ?_
            refine r_callS (As := [.int (kd)]) (st := [.int (nI nu)]) [] [0] (fun _ => rdW b kd f1 f2 op od nu fg) [0] (c_X0_numbersOf l D cA cB (kd)) ks_X0_numbersOf ml_X0_35 dX0_take_61 rfl rfl rfl rfl rfl rfl (by decide) (fun _ => rfl) rfl rfl (Nat.le_of_ble_eq_true rfl) (fun v u h => ?_)
            subst h
            refine r_st (st' := [.int (nI (numOf kd)), .int (nI nu)]) rfl ?_
            refine r_ncmp_eq 69 (by omega) (by omega) dX0_take_64 (by decide) (fun h8 => ?_) (fun h8 => ?_)
            · refine r_aload_n 0 dX0_take_69 rfl rfl ?_
              refine r_iconst (nI 0) dX0_take_70 (by decide +kernel) ?_
              refine r_put 0 ([(b, .inr (0, [.int (kd), .int (f1), .int (f2), .int (nI 0), .int (nI od), .int (nI nu), .int (nI fg)]))]) fk_X0_9 dX0_take_71 rfl rfl (by decide +kernel) rfl (Nat.le_of_ble_eq_true rfl) rfl ?_
              refine r_aload_n 0 dX0_take_74 rfl rfl ?_
              refine r_dup rfl dX0_take_75 ?_
              refine r_get 0 fk_X0_15 dX0_take_76 rfl rfl ?_
              refine r_iconst (nI 1) dX0_take_79 (by decide +kernel) ?_
              refine r_niadd dX0_take_80 ?_
              refine r_put 0 ([(b, .inr (0, [.int (kd), .int (f1), .int (f2), .int (nI 0), .int (nI (od + 1)), .int (nI nu), .int (nI fg)]))]) fk_X0_15 dX0_take_81 rfl rfl rfl rfl (Nat.le_of_ble_eq_true rfl) rfl ?_
              refine r_iconst (nI 2) dX0_take_84 (by decide +kernel) ?_
              exact r_iret () dX0_take_85 (by unfold takeF; rw [if_neg h1, if_neg (by rw [h2]; decide), if_neg (fun z => Int32.not_lt.mpr z.2 h6), if_pos ⟨h7, h8⟩] <;> rfl) (by unfold takeF; rw [if_neg h1, if_neg (by rw [h2]; decide), if_neg (fun z => Int32.not_lt.mpr z.2 h6), if_pos ⟨h7, h8⟩] <;> rfl)
            · refine r_iconst (nI 0) dX0_take_67 (by decide +kernel) ?_
              exact r_iret () dX0_take_68 (by unfold takeF; rw [if_neg h1, if_neg (by rw [h2]; decide), if_neg (fun z => Int32.not_lt.mpr z.2 h6), if_neg (fun z => h8 z.2)] <;> rfl) (by unfold takeF; rw [if_neg h1, if_neg (by rw [h2]; decide), if_neg (fun z => Int32.not_lt.mpr z.2 h6), if_neg (fun z => h8 z.2)] <;> rfl)
        · refine r_aload_n 0 dX0_take_38 rfl rfl ?_
          refine r_iload_n 1 dX0_take_39 rfl rfl ?_
          refine r_bipush (nI 48) dX0_take_40 (by decide +kernel) ?_
          refine r_isub dX0_take_42 ?_
          refine r_callV (As := [.int (c - (nI (48)))]) (st := []) [0] [] (fun _ => rdZ b (figF kd f1 f2 op od nu fg (c - nI 48)).2) [0] (c_X0_takeFigure l D cA cB b kd f1 f2 op od nu fg hod hnu hfg (c - nI 48)) kv_X0_takeFigure ml_X0_26 dX0_take_43 rfl rfl rfl rfl rfl rfl rfl rfl (by decide) (fun _ => rfl) rfl rfl (Nat.le_of_ble_eq_true rfl) (fun v u h => ?_)
          subst h
          refine r_st (st' := [.int ((figF kd f1 f2 op od nu fg (c - nI 48)).1)]) rfl ?_
          exact r_iret () dX0_take_46 (by unfold takeF; rw [if_neg h1, if_neg (by rw [h2]; decide), if_pos ⟨Int32.not_lt.mp h3, Int32.not_lt.mp h6⟩] <;> rfl) (by unfold takeF; rw [if_neg h1, if_neg (by rw [h2]; decide), if_pos ⟨Int32.not_lt.mp h3, Int32.not_lt.mp h6⟩] <;> rfl)
    · refine r_aload_n 0 dX0_take_20 rfl rfl ?_
      refine r_iload_n 1 dX0_take_21 rfl rfl ?_
      refine r_callV (As := [.int (c)]) (st := []) [0] [] (fun _ => rdZ b (kindF (kd, f1, f2, op, od, nu, fg) c).2) [0] (c_X0_takeKind l D cA cB b kd f1 f2 op od nu fg c) kv_X0_takeKind ml_X0_22 dX0_take_22 rfl rfl rfl rfl rfl rfl rfl rfl (by decide) (fun _ => rfl) rfl rfl (Nat.le_of_ble_eq_true rfl) (fun v u h => ?_)
      subst h
      refine r_st (st' := [.int ((kindF (kd, f1, f2, op, od, nu, fg) c).1)]) rfl ?_
      exact r_iret () dX0_take_25 (by unfold takeF; rw [if_neg h1, if_pos h2] <;> rfl) (by unfold takeF; rw [if_neg h1, if_pos h2] <;> rfl)
  · refine r_aload_n 0 dX0_take_6 rfl rfl ?_
    refine r_iconst (nI 0) dX0_take_7 (by decide +kernel) ?_
    refine r_put 0 ([(b, .inr (0, [.int (kd), .int (f1), .int (f2), .int (bI (op)), .int (nI od), .int (nI nu), .int (nI 0)]))]) fk_X0_19 dX0_take_8 rfl rfl rfl rfl (Nat.le_of_ble_eq_true rfl) rfl ?_
    refine r_iconst (nI 1) dX0_take_11 (by decide +kernel) ?_
    exact r_iret () dX0_take_12 (by unfold takeF; rw [if_pos h1] <;> rfl) (by unfold takeF; rw [if_pos h1] <;> rfl)
end
section
def InitX (X : Cx) : Prop := match X with
  | (_, _, _, _, _, _, meth, _) => meth.name = "<init>"
theorem mt_ini {l : Launch} {D : va_G} {tys : List (ClassId × FieldType)} {y : MethodName} {b : ByteArray} {n : Nat} {ret : Option FieldType} {rm : Room} {av : List Value} {w : va_W} {S : Type} {post : Option Value → S → Prop} {w' : S → va_W} {mc ms : Nat} (own : String) (lv : Lv)
    (hown : y.cls = own) (hnm : y.name = "<init>") (hy : plainName own = true) (hc : av.all (fun v => v.category == 1) = true) (hle : (lg_sl av).length ≤ n) (hlv : av.map some ++ List.replicate (n - av.length) none = lv) (hn : lv.length = n)
    (body : ∀ (X : Cx) (sz : Nat), InitX X → G l X rm b own ret D tys (va_A w sz) (QX X D tys w sz S post w' mc ms) 0 0 w 0 lv []) : Mt l D tys y b n ret rm av w S post w' mc ms := by
  subst hown
  intro sz
  refine Met.ofW (cc := b) (maxL := n) (ret := ret) hy rfl ?_
  intro p e s m args below meth c s₁ B hml hv
  obtain ⟨rfl, hsz, hP, hK, hD0⟩ := hv
  subst hsz
  have hts := atoms_spec (ws := Cond.code y b n ret :: TB) B.pre
  have hle2 := lv_entry av hle
  have hin : meth.name = "<init>" := (name_of_methodNamed B.named B.method).1.trans hnm
  rw [lg_entry_eq]
  refine body (p, e, s, m, av.toArray, below, meth, c) s.heap.size hin ⟨⟨B.exec, B.bytes, hml.trans hn.symm, findClass_of_methodNamed B.named, fun w hw => hts w (List.mem_cons_of_mem _ hw)⟩, B.returns, B.notSynchronized, fun q h => Or.inr h, hK⟩ s.heap [] _ hP (hD0.self (sz := s.heap.size)) va_S.rf ⟨hle2.1.trans hn.symm, hle2.2.1, fun i v hi => ?_⟩
  rw [← hlv] at hi
  have h := lv_args_mem av (cat1 hc) _ 0 i v hi
  rw [Nat.zero_add] at h
  exact hle2.2.2 (i, v) h
section GM
variable {l : Launch} {X : Cx} {R : Room} {cc : ByteArray} {own : String} {ret : Option FieldType} {D : va_G} {tys : List (ClassId × FieldType)} {A : Nat → Prop} {Q : State → Prop} {k n : Nat} {ws : va_W} {pc : Nat} {lv : Lv} {st : List Value}
/-- the cells in another order -/
theorem r_perm {ws' : va_W} (isP : List Nat) (hn : va_nd isP = true) (h : isP.map (fun i => ws[i]?) = ws'.map some) (kk : G l X R cc own ret D tys A Q k n ws' pc lv st) : G l X R cc own ret D tys A Q k n ws pc lv st := by
  obtain ⟨p, e, s, m, args, below, meth, c⟩ := X
  intro F H locs ls hP hD hS hl
  exact kk F H locs ls (hP.sub isP (fm_of_map h)) (hD.sub isP hn h) hS hl
theorem r_aald {a N : Nat} {cB : ClassId} {C : String} {f : Nat → Option Nat} {i : Int32} (q0 j : Nat) {x : Nat} (hd : decode cc pc = .ok (.aaload, 1)) (he : ws[q0]? = some (a, .inl (cB, N, .inr (.inr (.inr (.inr f)))))) (ht : tys[1]? = some (cB, .object C)) (hi : i = nI j) (hj : j < N) (hN : N < 2 ^ 31) (hx : f j = some x) (kk : G l X R cc own ret D tys A Q k n ws (pc + 1) lv (.ref x :: st)) : G l X R cc own ret D tys A Q k n ws pc lv (.int i :: .ref a :: st) := by
  obtain ⟨p, e, s, m, args, below, meth, c⟩ := X
  intro F H locs ls hP hD hS hl
  subst hi
  refine va_aldq F.1.1 F.1.2.1 F.2.2.2.2 hP q0 1 he ht (vp_in_nI hj hN) hd ?_
  rw [nI_clamp (Nat.lt_trans hj hN), hx]
  exact kk F H locs ls hP hD hS hl
theorem r_aast {a N v ci : Nat} {cB : ClassId} {r : vw_C} {vs : List Value} {f : Nat → Option Nat} {i : Int32} (q0 qk j : Nat) (ws' : va_W) (hd : decode cc pc = .ok (.aastore, 1)) (he : ws[q0]? = some (a, .inl (cB, N, .inr (.inr (.inr (.inr f)))))) (ht : tys[1]? = some (cB, .object r.1)) (hv : ws[qk]? = some (v, .inr (ci, vs))) (hc : vwCl[ci]? = some r) (hi : i = nI j) (hj : j < N) (hN : N < 2 ^ 31) (hs : ws.set q0 (a, .inl (cB, N, .inr (.inr (.inr (.inr (va_up f j (some v))))))) = ws') (kk : G l X R cc own ret D tys A Q k n ws' (pc + 1) lv st) : G l X R cc own ret D tys A Q k n ws pc lv (.ref v :: .int i :: .ref a :: st) := by
  obtain ⟨p, e, s, m, args, below, meth, c⟩ := X
  intro F H locs ls hP hD hS hl
  subst hi
  subst hs
  refine va_astq F.1.1 F.1.2.1 F.2.2.2.2 hP hD hS q0 1 qk ci he ht hv hc (vp_in_nI hj hN) hd ?_
  rw [nI_clamp (Nat.lt_trans hj hN)]
  exact fun H1 locs1 hP hD hS => kk F H1 locs1 ls hP hD hS hl
theorem r_newa {cA : ClassId} (N : Nat) (hty : tys[0]? = some (cA, .int)) (hd : decode cc pc = .ok (.newarray .int, 2)) (hN : Nat.ble (N + 1) 1048576 = true) (hk : Nat.ble (k + 1) R.cells = true) (hn : Nat.ble (n + N) R.slots = true) (kk : ∀ q : Nat, G l X R cc own ret D tys A Q (k + 1) (n + N) (ws ++ [(q, .inl (cA, N, .inl (fun _ => 0)))]) (pc + 2) lv (.ref q :: st)) : G l X R cc own ret D tys A Q k n ws pc lv (.int (nI N) :: st) := by
  obtain ⟨p, e, s, m, args, below, meth, c⟩ := X
  intro F H locs ls hP hD hS hl
  have hN := Nat.le_of_ble_eq_true hN
  have hts := F.1.2.2.2.2
  refine va_newa (atype := .int) (a0 := (N, .inl (fun _ => 0))) F.1.1 F.1.2.1 (hts _ ac_I) rfl F.2.2.2.2 hP hD hS F.2.2.2.1 (fun _ => rfl) (nI_pos (by omega)) (nI_clamp (by omega)) (by show N * 4 ≤ _; omega) (Nat.le_of_ble_eq_true hk) (Nat.le_of_ble_eq_true hn) hd (fun q cA' H1 hK hP hD hS => ?_)
  have e1 := (F.2.2.2.2.2 0 _ hty).2
  have e2 := (hK.2 tys.length (cA', .int) (by simp; rfl)).2
  have e3 : cA' = cA := Option.some.inj ((show s.vm.findClass _ = some cA' from e2).symm.trans (show s.vm.findClass _ = some cA from e1))
  subst e3
  exact kk q F H1 locs ls hP hD hS hl
theorem r_newq {cB : ClassId} {ix : Nat} (N : Nat) (hty : tys[1]? = some (cB, .object RX1)) (hcl : Cond.classLink own ix RX1 ∈ TB) (hd : decode cc pc = .ok (.anewarray ix, 3)) (hN : Nat.ble (N + 1) 1048576 = true) (hk : Nat.ble (k + 1) R.cells = true) (hn : Nat.ble (n + N) R.slots = true) (kk : ∀ q : Nat, G l X R cc own ret D tys A Q (k + 1) (n + N) (ws ++ [(q, .inl (cB, N, .inr (.inr (.inr (.inr (fun _ => none))))))]) (pc + 3) lv (.ref q :: st)) : G l X R cc own ret D tys A Q k n ws pc lv (.int (nI N) :: st) := by
  obtain ⟨p, e, s, m, args, below, meth, c⟩ := X
  intro F H locs ls hP hD hS hl
  have hN := Nat.le_of_ble_eq_true hN
  have hts := F.1.2.2.2.2
  refine va_newq F.1.1 F.1.2.1 F.1.2.2.2.1 (hts _ hcl) (va_AO.of (hts _ ao_R)) F.2.2.2.2 hP hD hS F.2.2.2.1 (nI_pos (by omega)) (nI_clamp (by omega)) (by omega) (Nat.le_of_ble_eq_true hk) (Nat.le_of_ble_eq_true hn) hd (fun q cB' H1 hK hP hD hS => ?_)
  obtain ⟨_, _, _, _, _, e1⟩ := (F.2.2.2.2.2 1 _ hty).2
  obtain ⟨_, _, _, _, _, e2⟩ := (hK.2 tys.length (cB', .object RX1) (by simp)).2
  have e3 : cB' = cB := Option.some.inj (e2.symm.trans e1)
  subst e3
  exact kk q F H1 locs ls hP hD hS hl
theorem r_new {C : String} {T : u_T} {N ix : Nat} (ci : Nat) (fs : List Value) (hc : vwCl[ci]? = some (C, T, N)) (hw : ∀ w ∈ u_ws C T N, w ∈ TB) (hcl : Cond.classLink own ix C ∈ TB) (hins : Cond.instantiable C N ∈ TB) (hini : Cond.initialized C ∈ TB) (hfs : (List.range N).all (fun j => decide (defaultValue (tyOf ci j) = vp_V fs j)) = true) (hd : decode cc pc = .ok (.new ix, 3)) (hk : Nat.ble (k + 1) R.cells = true) (hn : Nat.ble (n + N) R.slots = true) (kk : ∀ q : Nat, G l X R cc own ret D tys A Q (k + 1) (n + N) (ws ++ [(q, .inr (ci, fs))]) (pc + 3) lv (.ref q :: st)) : G l X R cc own ret D tys A Q k n ws pc lv st := by
  obtain ⟨p, e, s, m, args, below, meth, c⟩ := X
  intro F H locs ls hP hD hS hl
  have hts := F.1.2.2.2.2
  exact va_new (T := T) (N := N) F.1.1 F.1.2.1 hts hw (tyOf ci) (ty_ok ci _ hc) F.1.2.2.2.1 (hts _ hcl) (hts _ hins) (hts _ hini) F.2.2.2.2 hP hD hS F.2.2.2.1 hc (fun j hj => of_decide_eq_true (List.all_eq_true.mp hfs j (List.mem_range.mpr hj))) (Nat.le_of_ble_eq_true hk) (Nat.le_of_ble_eq_true hn) hd (fun q H1 hP hD hS => kk q F H1 locs ls hP hD hS hl)
theorem r_obj {ix a : Nat} (hlk : Cond.methodLink own ix objectInit ∈ TB) (hd : decode cc pc = .ok (.invokespecial ix, 3)) (hf : Nat.ble 1 R.frames = true) (hlo : Nat.ble ((st.map fun v => v.category).sum + 12) R.locals = true) (kk : G l X R cc own ret D tys A Q k n ws (pc + 3) lv st) : G l X R cc own ret D tys A Q k n ws pc lv (.ref a :: st) := by
  obtain ⟨p, e, s, m, args, below, meth, c⟩ := X
  intro F H locs ls hP hD hS hl
  have hts := F.1.2.2.2.2
  refine W.objInit F.1.1 F.1.2.1 F.1.2.2.2.1 (hts _ hlk) (hts _ oi_i) (hts _ oi_c) rfl (hl.1.trans F.1.2.2.1.symm) rfl hd (Nat.le_of_ble_eq_true hf) ?_ ?_
  · show 2 * 0 + _ + 12 ≤ _
    have := Nat.le_of_ble_eq_true hlo
    omega
  · exact kk F H locs ls hP hD hS hl
theorem r_putF {ix ci f a : Nat} {fs : List Value} {v : Value} (hX : InitX X) (q0 : Nat) (ws' : va_W) (hk : LkF own ix ci f) (hd : decode cc pc = .ok (.putfield ix, 3)) (he : ws[q0]? = some (a, .inr (ci, fs))) (hfin : finOf ci f = true) (hdc : declOf ci f = own) (hn : narrow (tyOf ci f) v = v) (hfit : fits (tyOf ci f) v = true) (hl0 : f < fs.length) (hs : ws.set q0 (a, .inr (ci, fs.set f v)) = ws') (hnn : ∀ host, ¬ Cond.fieldLinkNest own ix (declOf ci f) "" "" host ∈ TB ∨ True) (h4 : ∀ q : vw_C, vwCl[ci]? = some q → Cond.fieldLink own ix (q.2.1 f).1 (q.2.1 f).2.1 (q.2.1 f).2.2.1 ∈ TB) (kk : G l X R cc own ret D tys A Q k n ws' (pc + 3) lv st) : G l X R cc own ret D tys A Q k n ws pc lv (v :: .ref a :: st) := by
  obtain ⟨p, e, s, m, args, below, meth, c⟩ := X
  intro F H locs ls hP hD hS hl
  subst hs
  obtain ⟨q, h1, h2, h3, -⟩ := hk
  have hfin : (q.2.1 f).2.2.2 = true := by unfold finOf at hfin; rw [h1] at hfin; exact hfin
  have hdc : (q.2.1 f).1 = own := by unfold declOf at hdc; rw [h1] at hdc; exact hdc
  exact va_putF (C := q.1) (T := q.2.1) (N := q.2.2) F.1.1 F.1.2.1 F.1.2.2.2.2 h3 (tyOf ci) (ty_ok ci q h1) (nm_ok ci q h1) F.1.2.2.2.1 F.2.2.2.2 hP hD hS q0 he h1 f h2 (F.1.2.2.2.2 _ (h4 q h1)) (fun _ h => h) hfin hX hdc (ty_ok ci q h1 f h2) hn hfit hl0 hd (fun H1 locs1 hP hD hS => kk F H1 locs1 ls hP hD hS hl)
end GM
/-! THE STATES: six rows, r their cells, σ what they hold, h of them kept -/
def rA (r : Nat → Nat → Nat) : Nat → Option Nat := fun j => if j < 6 then some (r j 0) else none
abbrev stW (cA cB : ClassId) (t : Nat → Nat) (r : Nat → Nat → Nat) (σ : Nat → Nat → Int32) (h : Int32) : va_W := [(t 0, .inr (3, [.ref (t 1), .int h])), (t 1, .inl (cB, 6, .inr (.inr (.inr (.inr (rA r))))))] ++ (rowW cA (r 0) (σ 0) ++ (rowW cA (r 1) (σ 1) ++ (rowW cA (r 2) (σ 2) ++ (rowW cA (r 3) (σ 3) ++ (rowW cA (r 4) (σ 4) ++ rowW cA (r 5) (σ 5))))))
def ups (σ : Nat → Nat → Int32) (h : Nat) (ρ : Nat → Int32) : Nat → Nat → Int32 := fun i => if i = h then ρ else σ i
def rot {α : Type} (r : Nat → α) : Nat → α := fun i => if i < 5 then r (i + 1) else r 0
theorem rot_a (r : Nat → Nat → Nat) : va_up (va_up (va_up (va_up (va_up (va_up (rA r) 0 (some (r 1 0))) 1 (some (r 2 0))) 2 (some (r 3 0))) 3 (some (r 4 0))) 4 (some (r 5 0))) 5 (some (r 0 0)) = rA (rot r) := by
  funext j
  match j with
  | 0 => rfl
  | 1 => rfl
  | 2 => rfl
  | 3 => rfl
  | 4 => rfl
  | 5 => rfl
  | j + 6 =>
    simp only [va_up, rA]
    rw [if_neg (by omega), if_neg (by omega), if_neg (by omega), if_neg (by omega), if_neg (by omega), if_neg (by omega), if_neg (by omega), if_neg (by omega)]
end
section
/-! worlds by pieces: a call takes some pieces, the rest stays -/
def cat : List va_W → va_W
  | [] => []
  | [a] => a
  | a :: b :: r => a ++ cat (b :: r)
theorem cat_flat : ∀ S : List va_W, cat S = S.flatten
  | [] => rfl
  | [a] => by simp [cat]
  | a :: b :: r => by
    have h := cat_flat (b :: r)
    show a ++ cat (b :: r) = _
    rw [h]; rfl
theorem P_mem {D : va_G} {cl : List vw_C} {ws : va_W} {H : Heap} : va_P D cl ws H ↔ ∀ q ∈ ws, va_at D cl q H := ⟨fun h q hq => by obtain ⟨k, hk⟩ := List.getElem?_of_mem hq; exact h k q hk, fun h k q hk => h q (List.mem_of_getElem? hk)⟩
theorem D_mem {A : Nat → Prop} {ws : va_W} : va_D A ws ↔ ws.Pairwise (fun p q => p.1 ≠ q.1) ∧ ∀ q ∈ ws, A q.1 := by
  constructor
  · rintro ⟨h1, h2⟩
    refine ⟨List.pairwise_iff_getElem.mpr (fun i j hi hj hij e => ?_), fun q hq => by obtain ⟨k, hk⟩ := List.getElem?_of_mem hq; exact h2 k q hk⟩
    have := h1 i j _ _ (List.getElem?_eq_getElem hi) (List.getElem?_eq_getElem hj) e
    omega
  · rintro ⟨h1, h2⟩
    refine ⟨fun i j p q hp hq e => ?_, fun k q hk => h2 q (List.mem_of_getElem? hk)⟩
    obtain ⟨hi, rfl⟩ := List.getElem?_eq_some_iff.mp hp
    obtain ⟨hj, rfl⟩ := List.getElem?_eq_some_iff.mp hq
    have h3 := List.pairwise_iff_getElem.mp h1
    rcases Nat.lt_trichotomy i j with h | h | h
    · exact absurd e (h3 i j hi hj h)
    · exact h
    · exact absurd e.symm (h3 j i hj hi h)
theorem va_P.perm {D : va_G} {cl : List vw_C} {ws ws' : va_W} {H : Heap} (hp : ws.Perm ws') (h : va_P D cl ws H) : va_P D cl ws' H := P_mem.mpr (fun q hq => P_mem.mp h q (hp.mem_iff.mpr hq))
theorem va_D.perm {A : Nat → Prop} {ws ws' : va_W} (hp : ws.Perm ws') (h : va_D A ws) : va_D A ws' := by
  obtain ⟨h1, h2⟩ := D_mem.mp h
  exact D_mem.mpr ⟨(hp.pairwise_iff (fun z => Ne.symm z)).mp h1, fun q hq => h2 q (hp.mem_iff.mpr hq)⟩
/-- pieces by their numbers: an order of all of them -/
theorem perm_idx {α : Type} : ∀ {S L : List α} {is : List Nat}, is.map (fun i => S[i]?) = L.map some → is.Perm (List.range S.length) → L.Perm S := by
  intro S L is h hp
  have h1 : (L.map some).Perm (S.map some) := by
    rw [← h]
    have e : S.map some = (List.range S.length).map (fun i => S[i]?) := by
      apply List.ext_getElem?
      intro i
      simp only [List.getElem?_map, List.getElem?_range]
      by_cases hi : i < S.length
      · simp [hi]
      · simp [hi]
    rw [e]
    exact hp.map _
  have h2 := h1.filterMap id
  simpa using h2
/-- 'is' holds each number below n once -/
def isOk (is : List Nat) (n : Nat) : Bool := is.isPerm (List.range n)
theorem isOk_perm {is : List Nat} {n : Nat} (h : isOk is n = true) : is.Perm (List.range n) := List.isPerm_iff.mp h
theorem cat_perm {S S' : List va_W} (h : S.Perm S') : (cat S).Perm (cat S') := by
  rw [cat_flat, cat_flat]
  exact h.flatten
theorem cat_app (S T : List va_W) : (cat (S ++ T)).Perm (cat S ++ cat T) := by
  rw [cat_flat, cat_flat, cat_flat, List.flatten_append]
/-- behind a call, by pieces -/
theorem join_perm {A0 : Nat → Prop} {D : va_G} {cl : List vw_C} {ws wc wr w1 : va_W} {H H1 : Heap} (hp : ws.Perm (wc ++ wr)) (hP : va_P D cl ws H) (hD : va_D A0 ws)
    (hk : ∀ q : Nat, q < H.size → ¬ va_A wc H.size q → H1[q]? = H[q]?) (hF : ∀ q, va_A wc H.size q → A0 q) (hP1 : va_P D cl w1 H1) (hD1 : va_D (va_A wc H.size) w1) : va_P D cl (wr ++ w1) H1 ∧ va_D A0 (wr ++ w1) := by
  have hP' := P_mem.mp (hP.perm hp)
  obtain ⟨hd1, hd2⟩ := D_mem.mp (hD.perm hp)
  obtain ⟨hdc, hdr, hdx⟩ := List.pairwise_append.mp hd1
  obtain ⟨e1, e2⟩ := D_mem.mp hD1
  have apart : ∀ q ∈ wr, q.1 < H.size ∧ ¬ va_A wc H.size q.1 := by
    intro q hq
    have hl := (hP' q (List.mem_append_right _ hq)).lt
    refine ⟨hl, fun h => ?_⟩
    rcases h with ⟨k2, e, h⟩ | h
    · exact hdx (q.1, e) (List.mem_of_getElem? h) q hq rfl
    · omega
  refine ⟨P_mem.mpr (fun q hq => ?_), D_mem.mpr ⟨List.pairwise_append.mpr ⟨hdr, e1, fun a ha b hb e => ?_⟩, fun q hq => ?_⟩⟩
  · rcases List.mem_append.mp hq with h | h
    · obtain ⟨g1, g2⟩ := apart q h
      exact (hP' q (List.mem_append_right _ h)).kept (hk q.1 g1 g2)
    · exact P_mem.mp hP1 q h
  · exact (apart a ha).2 (by rw [e]; exact e2 b hb)
  · rcases List.mem_append.mp hq with h | h
    · exact hd2 q (List.mem_append_right _ h)
    · exact hF q.1 (e2 q h)
section GS
variable {l : Launch} {X : Cx} {R : Room} {cc : ByteArray} {own : String} {ret : Option FieldType} {D : va_G} {tys : List (ClassId × FieldType)} {A : Nat → Prop} {Q : State → Prop} {k n : Nat} {ws : va_W} {pc : Nat} {lv : Lv} {st : List Value}
theorem run_fin2 {p : Program} {e : Env} {s : State} {m : MethodId} {args : Array Value} {below : List Frame} {meth : Method} {c : Code} {H : Heap} {locs : List Loc} {ls : Array Slot} {stk : List Value} {S : Type} {post : Option Value → S → Prop} {wc wr : va_W} {wc' : S → va_W} {a : Array Value} {mc ms : Nat} (ws' : S → va_W)
    (F : Fx (p, e, s, m, args, below, meth, c) cc lv.length own ret D tys A) (hP : va_P D vwCl ws H) (hD : va_D A ws) (hS : va_S A s.heap H locs) (hl : lh ls lv)
    (hp : ws.Perm (wc ++ wr)) (hp' : ∀ u, (wr ++ wc' u).Perm (ws' u))
    (hrun : va_Run p l e R s m args below meth c H locs k n mc ms (F0 m pc ls stk) st (Qc D tys wc H.size S post wc' a) (va_A wc H.size))
    (kk : ∀ (v : Option Value) (u : S), post v u → G l (p, e, s, m, args, below, meth, c) R cc own ret D tys A Q (k + mc) (n + ms) (ws' u) (pc + 3) lv (v.toList ++ st)) : W p l e R s m args below meth c H locs k n Q (F0 m pc ls stk) := by
  intro T hT XX
  have hFc : ∀ q, va_A wc H.size q → A q := by
    intro q h
    rcases h with ⟨k2, e2, h⟩ | h
    · exact (D_mem.mp (hD.perm hp)).2 (q, e2) (List.mem_append_left _ (List.mem_of_getElem? h))
    · exact F.2.2.2.1 q (Nat.le_trans hS.1 h)
  obtain ⟨v, st₀, t, T', L, h0, X', hL, e1, e2, ⟨⟨v2, u, hv, hpo, hB1, hB2, hB3⟩, hz, hk⟩, stp⟩ := hrun T hT XX
  cases hv
  rw [h0] at hz hk
  have j := join_perm hp hP hD (H1 := T'.heap) (fun q h1 h2 => by rw [e1]; exact hk q h1 h2) hFc (by rw [e1]; exact hB1) hB3
  obtain ⟨t2, a1, b1⟩ := kk v u hpo F T'.heap (locs ++ L) ls (j.1.perm (hp' u)) (j.2.perm (hp' u))
    ⟨Nat.le_trans hS.1 (by rw [e1]; exact hz), fun q h1 h2 => by rw [e1, hk q (Nat.lt_of_lt_of_le h1 hS.1) (fun z => h2 (hFc q z))]; exact hS.2.1 q h1 h2, fun q hq => by
      rcases List.mem_append.mp hq with h | h
      · exact hS.2.2 q h
      · exact hFc _ (hL q h)⟩ hl T' rfl X'
  exact ⟨t2, stp t2 a1, b1⟩
/-- the pieces of a call: SS the caller's, WC the callee's, WR the rest; WC' and SS' behind it -/
def SegOk (ws : va_W) (wc : va_W) (SS WC WR : List va_W) : Prop := ws = cat SS ∧ wc = cat WC ∧ (WC ++ WR).Perm SS
theorem segOk {ws wc : va_W} {SS WC WR : List va_W} (is : List Nat) (h1 : ws = cat SS) (h2 : wc = cat WC) (h3 : is.map (fun i => SS[i]?) = (WC ++ WR).map some) (h4 : isOk is SS.length = true) : SegOk ws wc SS WC WR := ⟨h1, h2, perm_idx h3 (isOk_perm h4)⟩
theorem SegOk.p {ws wc : va_W} {SS WC WR : List va_W} (h : SegOk ws wc SS WC WR) : ws.Perm (wc ++ cat WR) := by
  obtain ⟨rfl, rfl, h3⟩ := h
  exact (cat_perm h3.symm).trans (cat_app WC WR)
theorem SegOk.p' {ws wc : va_W} {SS WC WR : List va_W} (h : SegOk ws wc SS WC WR) : (cat WR ++ wc).Perm ws := (List.perm_append_comm.trans h.p.symm)
theorem r_callV2 {S : Type} {post : Option Value → S → Prop} {wc : va_W} {wc' : S → va_W} {y : MethodName} {b' : ByteArray} {n' np ix mc ms q ci : Nat} {ret' : Option FieldType} {rm' : Room} {As stk : List Value} {fs : List Value} {T : u_T} {N : Nat} (ws' : S → va_W) (SS WC WR : List va_W) (SS' WC' : S → List va_W)
    (hM : Mt l D tys y b' n' ret' rm' (.ref q :: As) wc S post wc' mc ms) (hkv : LkV y b' n' ret' np) (hkm : LkM own ix y) (hd : decode cc pc = .ok (.invokevirtual ix, 3)) (hnp : As.length = np) (hrm : RmOk R rm' n' mc ms k n = true)
    (hrv : wc[0]? = some (q, .inr (ci, fs))) (hcl : vwCl[ci]? = some (y.cls, T, N))
    (hs : SegOk ws wc SS WC WR) (hs' : ∀ u, SegOk (ws' u) (wc' u) (SS' u) (WC' u) WR)
    (hst : stk = As.reverse ++ .ref q :: st) (hsum : (st.map fun v => v.category).sum ≤ 8)
    (kk : ∀ (v : Option Value) (u : S), post v u → G l X R cc own ret D tys A Q (k + mc) (n + ms) (ws' u) (pc + 3) lv (v.toList ++ st)) : G l X R cc own ret D tys A Q k n ws pc lv stk := by
  obtain ⟨p, e, s, m, args, below, meth, c⟩ := X
  intro F H locs ls hP hD hS hl
  have hPc : va_P D vwCl wc H := P_mem.mpr (fun q hq => P_mem.mp (hP.perm hs.p) q (List.mem_append_left _ hq))
  have hDc : va_D A wc := by
    obtain ⟨h1, h2⟩ := D_mem.mp (hD.perm hs.p)
    exact D_mem.mpr ⟨(List.pairwise_append.mp h1).1, fun q hq => h2 q (List.mem_append_left _ hq)⟩
  have hK := F.2.2.2.2
  have hts := F.1.2.2.2.2
  obtain ⟨r1, r2, r3, r4, r5, r6⟩ := RmOk.of hrm
  obtain ⟨⟨h1, h2, h3, h4, h5⟩, hin, hsel⟩ := hkv
  have pre : PreV s H y.cls q (PcX D tys (.ref q :: As) wc H.size) As := ⟨pc_blind, va_recv hK hPc (q0 := 0) hcl hrv, fun U hU hW => ⟨rfl, by rw [hU], by rw [hU]; exact hPc, va_K.moved hW.alike hK, hDc.weaken (fun _ _ _ _ => trivial)⟩⟩
  refine run_fin2 (a := (.ref q :: As).toArray) (wc := wc) (wc' := wc') ws' F hP hD hS hl hs.p (fun u => (hs' u).p') ?_ kk
  rcases hkm with hkm | ⟨host, hkm⟩
  · exact va_runV F.1 (hM H.size) ⟨⟨r1, r2, r3, r4, pay_y hts h1, List.mem_cons_self, hts _ h1, hts _ h2, ⟨h3, h4⟩, np_of h5, hts _ hkm⟩, hts _ hin, hts _ hsel⟩ pre rfl hnp hl.1 hst (lv_room hsum) hd ⟨r5, r6⟩
  · exact va_runVN F.1 (hM H.size) ⟨⟨⟨r1, r2, r3, r4, pay_y hts h1, List.mem_cons_self⟩, hts _ h1, hts _ h2, ⟨h3, h4⟩, np_of h5, hts _ hkm⟩, hts _ hin, hts _ hsel⟩ pre rfl hnp hl.1 hst (lv_room hsum) hd ⟨r5, r6⟩
theorem r_callS2 {S : Type} {post : Option Value → S → Prop} {wc : va_W} {wc' : S → va_W} {y : MethodName} {b' : ByteArray} {n' np ix mc ms : Nat} {ret' : Option FieldType} {rm' : Room} {As stk : List Value} (ws' : S → va_W) (SS WC WR : List va_W) (SS' WC' : S → List va_W)
    (hM : Mt l D tys y b' n' ret' rm' As wc S post wc' mc ms) (hkv : LkS y b' n' ret' np) (hkm : LkM own ix y) (hd : decode cc pc = .ok (.invokestatic ix, 3)) (hnp : As.length = np) (hrm : RmOk R rm' n' mc ms k n = true)
    (hs : SegOk ws wc SS WC WR) (hs' : ∀ u, SegOk (ws' u) (wc' u) (SS' u) (WC' u) WR)
    (hst : stk = As.reverse ++ st) (hsum : (st.map fun v => v.category).sum ≤ 8)
    (kk : ∀ (v : Option Value) (u : S), post v u → G l X R cc own ret D tys A Q (k + mc) (n + ms) (ws' u) (pc + 3) lv (v.toList ++ st)) : G l X R cc own ret D tys A Q k n ws pc lv stk := by
  obtain ⟨p, e, s, m, args, below, meth, c⟩ := X
  intro F H locs ls hP hD hS hl
  have hPc : va_P D vwCl wc H := P_mem.mpr (fun q hq => P_mem.mp (hP.perm hs.p) q (List.mem_append_left _ hq))
  have hDc : va_D A wc := by
    obtain ⟨h1, h2⟩ := D_mem.mp (hD.perm hs.p)
    exact D_mem.mpr ⟨(List.pairwise_append.mp h1).1, fun q hq => h2 q (List.mem_append_left _ hq)⟩
  have hK := F.2.2.2.2
  have hts := F.1.2.2.2.2
  obtain ⟨r1, r2, r3, r4, r5, r6⟩ := RmOk.of hrm
  obtain ⟨⟨h1, h2, h3, h4, h5⟩, hstt⟩ := hkv
  have pre : PreS s H (PcX D tys As wc H.size) As := ⟨pc_blind, fun U hU hW => ⟨rfl, by rw [hU], by rw [hU]; exact hPc, va_K.moved hW.alike hK, hDc.weaken (fun _ _ _ _ => trivial)⟩⟩
  refine run_fin2 (a := As.toArray) (wc := wc) (wc' := wc') ws' F hP hD hS hl hs.p (fun u => (hs' u).p') ?_ kk
  rcases hkm with hkm | ⟨host, hkm⟩
  · exact va_runS F.1 (hM H.size) ⟨⟨r1, r2, r3, r4, pay_y hts h1, List.mem_cons_self, hts _ h1, hts _ h2, ⟨h3, h4⟩, np_of h5, hts _ hkm⟩, hts _ hstt⟩ pre rfl hnp hl.1 hst (lv_room hsum) hd ⟨r5, r6⟩
  · exact va_runSN F.1 (hM H.size) ⟨⟨⟨r1, r2, r3, r4, pay_y hts h1, List.mem_cons_self⟩, hts _ h1, hts _ h2, ⟨h3, h4⟩, np_of h5, hts _ hkm⟩, hts _ hstt, trivial⟩ pre rfl hnp hl.1 hst (lv_room hsum) hd ⟨r5, r6⟩
theorem r_callI2 {S : Type} {post : Option Value → S → Prop} {wc : va_W} {wc' : S → va_W} {y : MethodName} {b' : ByteArray} {n' np ix mc ms q : Nat} {rm' : Room} {As stk : List Value} (ws' : S → va_W) (SS WC WR : List va_W) (SS' WC' : S → List va_W)
    (hM : Mt l D tys y b' n' none rm' (.ref q :: As) wc S post wc' mc ms) (hkv : LkI y b' n' np) (hkm : LkM own ix y) (hd : decode cc pc = .ok (.invokespecial ix, 3)) (hnp : As.length = np) (hrm : RmOk R rm' n' mc ms k n = true)
    (hs : SegOk ws wc SS WC WR) (hs' : ∀ u, SegOk (ws' u) (wc' u) (SS' u) (WC' u) WR)
    (hst : stk = As.reverse ++ .ref q :: st) (hsum : (st.map fun v => v.category).sum ≤ 8)
    (kk : ∀ (v : Option Value) (u : S), post v u → G l X R cc own ret D tys A Q (k + mc) (n + ms) (ws' u) (pc + 3) lv (v.toList ++ st)) : G l X R cc own ret D tys A Q k n ws pc lv stk := by
  obtain ⟨p, e, s, m, args, below, meth, c⟩ := X
  intro F H locs ls hP hD hS hl
  have hPc : va_P D vwCl wc H := P_mem.mpr (fun q hq => P_mem.mp (hP.perm hs.p) q (List.mem_append_left _ hq))
  have hDc : va_D A wc := by
    obtain ⟨h1, h2⟩ := D_mem.mp (hD.perm hs.p)
    exact D_mem.mpr ⟨(List.pairwise_append.mp h1).1, fun q hq => h2 q (List.mem_append_left _ hq)⟩
  have hK := F.2.2.2.2
  have hts := F.1.2.2.2.2
  obtain ⟨r1, r2, r3, r4, r5, r6⟩ := RmOk.of hrm
  obtain ⟨⟨h1, h2, h3, h4, h5⟩, hin, hy1⟩ := hkv
  have pre : PreS s H (PcX D tys (.ref q :: As) wc H.size) (.ref q :: As) := ⟨pc_blind, fun U hU hW => ⟨rfl, by rw [hU], by rw [hU]; exact hPc, va_K.moved hW.alike hK, hDc.weaken (fun _ _ _ _ => trivial)⟩⟩
  refine run_fin2 (a := (.ref q :: As).toArray) (wc := wc) (wc' := wc') ws' F hP hD hS hl hs.p (fun u => (hs' u).p') ?_ kk
  rcases hkm with hkm | ⟨host, hkm⟩
  · exact va_runI F.1 (hM H.size) ⟨⟨r1, r2, r3, r4, pay_y hts h1, List.mem_cons_self, hts _ h1, hts _ h2, ⟨h3, h4⟩, np_of h5, hts _ hkm⟩, hy1, hts _ hin⟩ pre rfl hnp hl.1 hst (lv_room hsum) hd ⟨r5, r6⟩
  · exact va_runIN F.1 (hM H.size) ⟨⟨⟨r1, r2, r3, r4, pay_y hts h1, List.mem_cons_self⟩, hts _ h1, hts _ h2, ⟨h3, h4⟩, np_of h5, hts _ hkm⟩, hy1, hts _ hin⟩ pre rfl hnp hl.1 hst (lv_room hsum) hd ⟨r5, r6⟩
theorem r_perm2 {ws' : va_W} {SS SS' : List va_W} (is : List Nat) (h1 : ws = cat SS) (h2 : ws' = cat SS') (h3 : is.map (fun i => SS[i]?) = SS'.map some) (h4 : isOk is SS.length = true) (kk : G l X R cc own ret D tys A Q k n ws' pc lv st) : G l X R cc own ret D tys A Q k n ws pc lv st := by
  obtain ⟨p, e, s, m, args, below, meth, c⟩ := X
  intro F H locs ls hP hD hS hl
  subst h1; subst h2
  have hp := cat_perm (perm_idx h3 (isOk_perm h4)).symm
  exact kk F H locs ls (hP.perm hp) (hD.perm hp) hS hl
end GS
end
section
set_option maxRecDepth 100000 in
set_option maxHeartbeats 4000000 in
theorem c_X3_mark (l : Launch) (D : va_G) (cA cB : ClassId) (t : Nat → Nat) (r : Nat → Nat → Nat) (σ : Nat → Nat → Int32) (h : Nat) (hh : h ≤ 5) (q : Nat → Nat) (ρ : Nat → Int32)  : Mt l D (tyS cA cB) yX3_mark cX3_mark 2 none ({ frames := 1, cells := 0, slots := 0, locals := 22 } : Room) [.ref (t 0), .ref (q 0)] (stW cA cB t r σ (nI (h)) ++ (rowW cA q ρ)) Unit (fun v _ => v = none) (fun _ => stW cA cB t r (ups σ h ρ) (nI h) ++ (rowW cA q ρ)) 0 0 := by
  refine mt_in RX3 ([some (.ref (t 0)), some (.ref (q 0))]) rfl (by decide +kernel) rfl (Nat.le_of_ble_eq_true rfl) rfl rfl (fun X sz => ?_)
  refine r_aload_n 0 dX3_mark_0 rfl rfl ?_
  refine r_get 0 fk_X3_25 dX3_mark_1 rfl rfl ?_
  refine r_iconst (nI 5) dX3_mark_4 (by decide +kernel) ?_
  refine r_callS2 (As := [.int (nI h), .int (nI 5)]) (st := []) (fun _ => stW cA cB t r σ (nI (h)) ++ (rowW cA q ρ)) [stW cA cB t r σ (nI (h)), rowW cA q ρ] [] [stW cA cB t r σ (nI (h)), rowW cA q ρ] (fun _ => [stW cA cB t r σ (nI (h)), rowW cA q ρ]) (fun _ => []) (c_X4_within l D cA cB (nI (h)) (nI (5))) ks_X4_within ml_X3_29 dX3_mark_5 rfl rfl (segOk [0, 1] rfl rfl rfl rfl) (fun _ => segOk [0, 1] rfl rfl rfl rfl) rfl (Nat.le_of_ble_eq_true rfl) (fun v u h => ?_)
  subst h
  refine r_st (st' := [.int (bI (wi (nI (h)) (nI (5))))]) rfl ?_
  refine r_bif_eq 24 dX3_mark_8 (by decide) (fun h1 => ?_) (fun h1 => ?_)
  · exact absurd h1 (by rw [wi_n (by omega) (by decide), decide_eq_true (show _ ≤ 5 by omega)]; decide)
  · have hz : h = 0 ∨ h = 1 ∨ h = 2 ∨ h = 3 ∨ h = 4 ∨ h = 5 := by omega
    rcases hz with rfl | rfl | rfl | rfl | rfl | rfl
    · refine r_ws (ws' := [(t 0, .inr (3, [.ref (t 1), .int (nI 0)])), (t 1, .inl (cB, 6, .inr (.inr (.inr (.inr (rA r))))))] ++ (rowW cA (r 0) (σ 0) ++ (rowW cA (r 1) (σ 1) ++ (rowW cA (r 2) (σ 2) ++ (rowW cA (r 3) (σ 3) ++ (rowW cA (r 4) (σ 4) ++ (rowW cA (r 5) (σ 5) ++ (rowW cA q ρ)))))))) rfl ?_
      refine r_aload_n 0 dX3_mark_11 rfl rfl ?_
      refine r_get 0 fk_X3_11 dX3_mark_12 rfl rfl ?_
      refine r_aload_n 0 dX3_mark_15 rfl rfl ?_
      refine r_get 0 fk_X3_25 dX3_mark_16 rfl rfl ?_
      refine r_aald (x := (r 0) 0) 1 0 dX3_mark_19 rfl rfl rfl (Nat.le_of_ble_eq_true rfl) (Nat.le_of_ble_eq_true rfl) rfl ?_
      refine r_aload_n 1 dX3_mark_20 rfl rfl ?_
      refine r_callV2 (As := [.ref (q 0)]) (st := []) (fun _ => [(t 0, .inr (3, [.ref (t 1), .int (nI 0)])), (t 1, .inl (cB, 6, .inr (.inr (.inr (.inr (rA r))))))] ++ (rowW cA (r 0) ρ ++ (rowW cA (r 1) (σ 1) ++ (rowW cA (r 2) (σ 2) ++ (rowW cA (r 3) (σ 3) ++ (rowW cA (r 4) (σ 4) ++ (rowW cA (r 5) (σ 5) ++ (rowW cA q ρ)))))))) [[(t 0, .inr (3, [.ref (t 1), .int (nI 0)])), (t 1, .inl (cB, 6, .inr (.inr (.inr (.inr (rA r))))))], rowW cA (r 0) (σ 0), rowW cA (r 1) (σ 1), rowW cA (r 2) (σ 2), rowW cA (r 3) (σ 3), rowW cA (r 4) (σ 4), rowW cA (r 5) (σ 5), rowW cA q ρ] [rowW cA (r 0) (σ 0), rowW cA q ρ] [[(t 0, .inr (3, [.ref (t 1), .int (nI 0)])), (t 1, .inl (cB, 6, .inr (.inr (.inr (.inr (rA r))))))], rowW cA (r 1) (σ 1), rowW cA (r 2) (σ 2), rowW cA (r 3) (σ 3), rowW cA (r 4) (σ 4), rowW cA (r 5) (σ 5)] (fun _ => [[(t 0, .inr (3, [.ref (t 1), .int (nI 0)])), (t 1, .inl (cB, 6, .inr (.inr (.inr (.inr (rA r))))))], rowW cA (r 0) ρ, rowW cA (r 1) (σ 1), rowW cA (r 2) (σ 2), rowW cA (r 3) (σ 3), rowW cA (r 4) (σ 4), rowW cA (r 5) (σ 5), rowW cA q ρ]) (fun _ => [rowW cA (r 0) ρ, rowW cA q ρ]) (c_X1_copyOf l D cA cB (r 0) q (σ 0) ρ) kv_X1_copyOf ml_X3_33 dX3_mark_21 rfl rfl rfl rfl (segOk [1, 7, 0, 2, 3, 4, 5, 6] rfl rfl rfl rfl) (fun _ => segOk [1, 7, 0, 2, 3, 4, 5, 6] rfl rfl rfl rfl) rfl (Nat.le_of_ble_eq_true rfl) (fun v u h => ?_)
      subst h
      refine r_st (st' := []) rfl ?_
      exact r_vret () dX3_mark_24 (rfl) (rfl)
    · refine r_ws (ws' := [(t 0, .inr (3, [.ref (t 1), .int (nI 1)])), (t 1, .inl (cB, 6, .inr (.inr (.inr (.inr (rA r))))))] ++ (rowW cA (r 0) (σ 0) ++ (rowW cA (r 1) (σ 1) ++ (rowW cA (r 2) (σ 2) ++ (rowW cA (r 3) (σ 3) ++ (rowW cA (r 4) (σ 4) ++ (rowW cA (r 5) (σ 5) ++ (rowW cA q ρ)))))))) rfl ?_
      refine r_aload_n 0 dX3_mark_11 rfl rfl ?_
      refine r_get 0 fk_X3_11 dX3_mark_12 rfl rfl ?_
      refine r_aload_n 0 dX3_mark_15 rfl rfl ?_
      refine r_get 0 fk_X3_25 dX3_mark_16 rfl rfl ?_
      refine r_aald (x := (r 1) 0) 1 1 dX3_mark_19 rfl rfl rfl (Nat.le_of_ble_eq_true rfl) (Nat.le_of_ble_eq_true rfl) rfl ?_
      refine r_aload_n 1 dX3_mark_20 rfl rfl ?_
      refine r_callV2 (As := [.ref (q 0)]) (st := []) (fun _ => [(t 0, .inr (3, [.ref (t 1), .int (nI 1)])), (t 1, .inl (cB, 6, .inr (.inr (.inr (.inr (rA r))))))] ++ (rowW cA (r 0) (σ 0) ++ (rowW cA (r 1) ρ ++ (rowW cA (r 2) (σ 2) ++ (rowW cA (r 3) (σ 3) ++ (rowW cA (r 4) (σ 4) ++ (rowW cA (r 5) (σ 5) ++ (rowW cA q ρ)))))))) [[(t 0, .inr (3, [.ref (t 1), .int (nI 1)])), (t 1, .inl (cB, 6, .inr (.inr (.inr (.inr (rA r))))))], rowW cA (r 0) (σ 0), rowW cA (r 1) (σ 1), rowW cA (r 2) (σ 2), rowW cA (r 3) (σ 3), rowW cA (r 4) (σ 4), rowW cA (r 5) (σ 5), rowW cA q ρ] [rowW cA (r 1) (σ 1), rowW cA q ρ] [[(t 0, .inr (3, [.ref (t 1), .int (nI 1)])), (t 1, .inl (cB, 6, .inr (.inr (.inr (.inr (rA r))))))], rowW cA (r 0) (σ 0), rowW cA (r 2) (σ 2), rowW cA (r 3) (σ 3), rowW cA (r 4) (σ 4), rowW cA (r 5) (σ 5)] (fun _ => [[(t 0, .inr (3, [.ref (t 1), .int (nI 1)])), (t 1, .inl (cB, 6, .inr (.inr (.inr (.inr (rA r))))))], rowW cA (r 0) (σ 0), rowW cA (r 1) ρ, rowW cA (r 2) (σ 2), rowW cA (r 3) (σ 3), rowW cA (r 4) (σ 4), rowW cA (r 5) (σ 5), rowW cA q ρ]) (fun _ => [rowW cA (r 1) ρ, rowW cA q ρ]) (c_X1_copyOf l D cA cB (r 1) q (σ 1) ρ) kv_X1_copyOf ml_X3_33 dX3_mark_21 rfl rfl rfl rfl (segOk [2, 7, 0, 1, 3, 4, 5, 6] rfl rfl rfl rfl) (fun _ => segOk [2, 7, 0, 1, 3, 4, 5, 6] rfl rfl rfl rfl) rfl (Nat.le_of_ble_eq_true rfl) (fun v u h => ?_)
      subst h
      refine r_st (st' := []) rfl ?_
      exact r_vret () dX3_mark_24 (rfl) (rfl)
    · refine r_ws (ws' := [(t 0, .inr (3, [.ref (t 1), .int (nI 2)])), (t 1, .inl (cB, 6, .inr (.inr (.inr (.inr (rA r))))))] ++ (rowW cA (r 0) (σ 0) ++ (rowW cA (r 1) (σ 1) ++ (rowW cA (r 2) (σ 2) ++ (rowW cA (r 3) (σ 3) ++ (rowW cA (r 4) (σ 4) ++ (rowW cA (r 5) (σ 5) ++ (rowW cA q ρ)))))))) rfl ?_
      refine r_aload_n 0 dX3_mark_11 rfl rfl ?_
      refine r_get 0 fk_X3_11 dX3_mark_12 rfl rfl ?_
      refine r_aload_n 0 dX3_mark_15 rfl rfl ?_
      refine r_get 0 fk_X3_25 dX3_mark_16 rfl rfl ?_
      refine r_aald (x := (r 2) 0) 1 2 dX3_mark_19 rfl rfl rfl (Nat.le_of_ble_eq_true rfl) (Nat.le_of_ble_eq_true rfl) rfl ?_
      refine r_aload_n 1 dX3_mark_20 rfl rfl ?_
      refine r_callV2 (As := [.ref (q 0)]) (st := []) (fun _ => [(t 0, .inr (3, [.ref (t 1), .int (nI 2)])), (t 1, .inl (cB, 6, .inr (.inr (.inr (.inr (rA r))))))] ++ (rowW cA (r 0) (σ 0) ++ (rowW cA (r 1) (σ 1) ++ (rowW cA (r 2) ρ ++ (rowW cA (r 3) (σ 3) ++ (rowW cA (r 4) (σ 4) ++ (rowW cA (r 5) (σ 5) ++ (rowW cA q ρ)))))))) [[(t 0, .inr (3, [.ref (t 1), .int (nI 2)])), (t 1, .inl (cB, 6, .inr (.inr (.inr (.inr (rA r))))))], rowW cA (r 0) (σ 0), rowW cA (r 1) (σ 1), rowW cA (r 2) (σ 2), rowW cA (r 3) (σ 3), rowW cA (r 4) (σ 4), rowW cA (r 5) (σ 5), rowW cA q ρ] [rowW cA (r 2) (σ 2), rowW cA q ρ] [[(t 0, .inr (3, [.ref (t 1), .int (nI 2)])), (t 1, .inl (cB, 6, .inr (.inr (.inr (.inr (rA r))))))], rowW cA (r 0) (σ 0), rowW cA (r 1) (σ 1), rowW cA (r 3) (σ 3), rowW cA (r 4) (σ 4), rowW cA (r 5) (σ 5)] (fun _ => [[(t 0, .inr (3, [.ref (t 1), .int (nI 2)])), (t 1, .inl (cB, 6, .inr (.inr (.inr (.inr (rA r))))))], rowW cA (r 0) (σ 0), rowW cA (r 1) (σ 1), rowW cA (r 2) ρ, rowW cA (r 3) (σ 3), rowW cA (r 4) (σ 4), rowW cA (r 5) (σ 5), rowW cA q ρ]) (fun _ => [rowW cA (r 2) ρ, rowW cA q ρ]) (c_X1_copyOf l D cA cB (r 2) q (σ 2) ρ) kv_X1_copyOf ml_X3_33 dX3_mark_21 rfl rfl rfl rfl (segOk [3, 7, 0, 1, 2, 4, 5, 6] rfl rfl rfl rfl) (fun _ => segOk [3, 7, 0, 1, 2, 4, 5, 6] rfl rfl rfl rfl) rfl (Nat.le_of_ble_eq_true rfl) (fun v u h => ?_)
      subst h
      refine r_st (st' := []) rfl ?_
      exact r_vret () dX3_mark_24 (rfl) (rfl)
    · refine r_ws (ws' := [(t 0, .inr (3, [.ref (t 1), .int (nI 3)])), (t 1, .inl (cB, 6, .inr (.inr (.inr (.inr (rA r))))))] ++ (rowW cA (r 0) (σ 0) ++ (rowW cA (r 1) (σ 1) ++ (rowW cA (r 2) (σ 2) ++ (rowW cA (r 3) (σ 3) ++ (rowW cA (r 4) (σ 4) ++ (rowW cA (r 5) (σ 5) ++ (rowW cA q ρ)))))))) rfl ?_
      refine r_aload_n 0 dX3_mark_11 rfl rfl ?_
      refine r_get 0 fk_X3_11 dX3_mark_12 rfl rfl ?_
      refine r_aload_n 0 dX3_mark_15 rfl rfl ?_
      refine r_get 0 fk_X3_25 dX3_mark_16 rfl rfl ?_
      refine r_aald (x := (r 3) 0) 1 3 dX3_mark_19 rfl rfl rfl (Nat.le_of_ble_eq_true rfl) (Nat.le_of_ble_eq_true rfl) rfl ?_
      refine r_aload_n 1 dX3_mark_20 rfl rfl ?_
      refine r_callV2 (As := [.ref (q 0)]) (st := []) (fun _ => [(t 0, .inr (3, [.ref (t 1), .int (nI 3)])), (t 1, .inl (cB, 6, .inr (.inr (.inr (.inr (rA r))))))] ++ (rowW cA (r 0) (σ 0) ++ (rowW cA (r 1) (σ 1) ++ (rowW cA (r 2) (σ 2) ++ (rowW cA (r 3) ρ ++ (rowW cA (r 4) (σ 4) ++ (rowW cA (r 5) (σ 5) ++ (rowW cA q ρ)))))))) [[(t 0, .inr (3, [.ref (t 1), .int (nI 3)])), (t 1, .inl (cB, 6, .inr (.inr (.inr (.inr (rA r))))))], rowW cA (r 0) (σ 0), rowW cA (r 1) (σ 1), rowW cA (r 2) (σ 2), rowW cA (r 3) (σ 3), rowW cA (r 4) (σ 4), rowW cA (r 5) (σ 5), rowW cA q ρ] [rowW cA (r 3) (σ 3), rowW cA q ρ] [[(t 0, .inr (3, [.ref (t 1), .int (nI 3)])), (t 1, .inl (cB, 6, .inr (.inr (.inr (.inr (rA r))))))], rowW cA (r 0) (σ 0), rowW cA (r 1) (σ 1), rowW cA (r 2) (σ 2), rowW cA (r 4) (σ 4), rowW cA (r 5) (σ 5)] (fun _ => [[(t 0, .inr (3, [.ref (t 1), .int (nI 3)])), (t 1, .inl (cB, 6, .inr (.inr (.inr (.inr (rA r))))))], rowW cA (r 0) (σ 0), rowW cA (r 1) (σ 1), rowW cA (r 2) (σ 2), rowW cA (r 3) ρ, rowW cA (r 4) (σ 4), rowW cA (r 5) (σ 5), rowW cA q ρ]) (fun _ => [rowW cA (r 3) ρ, rowW cA q ρ]) (c_X1_copyOf l D cA cB (r 3) q (σ 3) ρ) kv_X1_copyOf ml_X3_33 dX3_mark_21 rfl rfl rfl rfl (segOk [4, 7, 0, 1, 2, 3, 5, 6] rfl rfl rfl rfl) (fun _ => segOk [4, 7, 0, 1, 2, 3, 5, 6] rfl rfl rfl rfl) rfl (Nat.le_of_ble_eq_true rfl) (fun v u h => ?_)
      subst h
      refine r_st (st' := []) rfl ?_
      exact r_vret () dX3_mark_24 (rfl) (rfl)
    · refine r_ws (ws' := [(t 0, .inr (3, [.ref (t 1), .int (nI 4)])), (t 1, .inl (cB, 6, .inr (.inr (.inr (.inr (rA r))))))] ++ (rowW cA (r 0) (σ 0) ++ (rowW cA (r 1) (σ 1) ++ (rowW cA (r 2) (σ 2) ++ (rowW cA (r 3) (σ 3) ++ (rowW cA (r 4) (σ 4) ++ (rowW cA (r 5) (σ 5) ++ (rowW cA q ρ)))))))) rfl ?_
      refine r_aload_n 0 dX3_mark_11 rfl rfl ?_
      refine r_get 0 fk_X3_11 dX3_mark_12 rfl rfl ?_
      refine r_aload_n 0 dX3_mark_15 rfl rfl ?_
      refine r_get 0 fk_X3_25 dX3_mark_16 rfl rfl ?_
      refine r_aald (x := (r 4) 0) 1 4 dX3_mark_19 rfl rfl rfl (Nat.le_of_ble_eq_true rfl) (Nat.le_of_ble_eq_true rfl) rfl ?_
      refine r_aload_n 1 dX3_mark_20 rfl rfl ?_
      refine r_callV2 (As := [.ref (q 0)]) (st := []) (fun _ => [(t 0, .inr (3, [.ref (t 1), .int (nI 4)])), (t 1, .inl (cB, 6, .inr (.inr (.inr (.inr (rA r))))))] ++ (rowW cA (r 0) (σ 0) ++ (rowW cA (r 1) (σ 1) ++ (rowW cA (r 2) (σ 2) ++ (rowW cA (r 3) (σ 3) ++ (rowW cA (r 4) ρ ++ (rowW cA (r 5) (σ 5) ++ (rowW cA q ρ)))))))) [[(t 0, .inr (3, [.ref (t 1), .int (nI 4)])), (t 1, .inl (cB, 6, .inr (.inr (.inr (.inr (rA r))))))], rowW cA (r 0) (σ 0), rowW cA (r 1) (σ 1), rowW cA (r 2) (σ 2), rowW cA (r 3) (σ 3), rowW cA (r 4) (σ 4), rowW cA (r 5) (σ 5), rowW cA q ρ] [rowW cA (r 4) (σ 4), rowW cA q ρ] [[(t 0, .inr (3, [.ref (t 1), .int (nI 4)])), (t 1, .inl (cB, 6, .inr (.inr (.inr (.inr (rA r))))))], rowW cA (r 0) (σ 0), rowW cA (r 1) (σ 1), rowW cA (r 2) (σ 2), rowW cA (r 3) (σ 3), rowW cA (r 5) (σ 5)] (fun _ => [[(t 0, .inr (3, [.ref (t 1), .int (nI 4)])), (t 1, .inl (cB, 6, .inr (.inr (.inr (.inr (rA r))))))], rowW cA (r 0) (σ 0), rowW cA (r 1) (σ 1), rowW cA (r 2) (σ 2), rowW cA (r 3) (σ 3), rowW cA (r 4) ρ, rowW cA (r 5) (σ 5), rowW cA q ρ]) (fun _ => [rowW cA (r 4) ρ, rowW cA q ρ]) (c_X1_copyOf l D cA cB (r 4) q (σ 4) ρ) kv_X1_copyOf ml_X3_33 dX3_mark_21 rfl rfl rfl rfl (segOk [5, 7, 0, 1, 2, 3, 4, 6] rfl rfl rfl rfl) (fun _ => segOk [5, 7, 0, 1, 2, 3, 4, 6] rfl rfl rfl rfl) rfl (Nat.le_of_ble_eq_true rfl) (fun v u h => ?_)
      subst h
      refine r_st (st' := []) rfl ?_
      exact r_vret () dX3_mark_24 (rfl) (rfl)
    · refine r_ws (ws' := [(t 0, .inr (3, [.ref (t 1), .int (nI 5)])), (t 1, .inl (cB, 6, .inr (.inr (.inr (.inr (rA r))))))] ++ (rowW cA (r 0) (σ 0) ++ (rowW cA (r 1) (σ 1) ++ (rowW cA (r 2) (σ 2) ++ (rowW cA (r 3) (σ 3) ++ (rowW cA (r 4) (σ 4) ++ (rowW cA (r 5) (σ 5) ++ (rowW cA q ρ)))))))) rfl ?_
      refine r_aload_n 0 dX3_mark_11 rfl rfl ?_
      refine r_get 0 fk_X3_11 dX3_mark_12 rfl rfl ?_
      refine r_aload_n 0 dX3_mark_15 rfl rfl ?_
      refine r_get 0 fk_X3_25 dX3_mark_16 rfl rfl ?_
      refine r_aald (x := (r 5) 0) 1 5 dX3_mark_19 rfl rfl rfl (Nat.le_of_ble_eq_true rfl) (Nat.le_of_ble_eq_true rfl) rfl ?_
      refine r_aload_n 1 dX3_mark_20 rfl rfl ?_
      refine r_callV2 (As := [.ref (q 0)]) (st := []) (fun _ => [(t 0, .inr (3, [.ref (t 1), .int (nI 5)])), (t 1, .inl (cB, 6, .inr (.inr (.inr (.inr (rA r))))))] ++ (rowW cA (r 0) (σ 0) ++ (rowW cA (r 1) (σ 1) ++ (rowW cA (r 2) (σ 2) ++ (rowW cA (r 3) (σ 3) ++ (rowW cA (r 4) (σ 4) ++ (rowW cA (r 5) ρ ++ (rowW cA q ρ)))))))) [[(t 0, .inr (3, [.ref (t 1), .int (nI 5)])), (t 1, .inl (cB, 6, .inr (.inr (.inr (.inr (rA r))))))], rowW cA (r 0) (σ 0), rowW cA (r 1) (σ 1), rowW cA (r 2) (σ 2), rowW cA (r 3) (σ 3), rowW cA (r 4) (σ 4), rowW cA (r 5) (σ 5), rowW cA q ρ] [rowW cA (r 5) (σ 5), rowW cA q ρ] [[(t 0, .inr (3, [.ref (t 1), .int (nI 5)])), (t 1, .inl (cB, 6, .inr (.inr (.inr (.inr (rA r))))))], rowW cA (r 0) (σ 0), rowW cA (r 1) (σ 1), rowW cA (r 2) (σ 2), rowW cA (r 3) (σ 3), rowW cA (r 4) (σ 4)] (fun _ => [[(t 0, .inr (3, [.ref (t 1), .int (nI 5)])), (t 1, .inl (cB, 6, .inr (.inr (.inr (.inr (rA r))))))], rowW cA (r 0) (σ 0), rowW cA (r 1) (σ 1), rowW cA (r 2) (σ 2), rowW cA (r 3) (σ 3), rowW cA (r 4) (σ 4), rowW cA (r 5) ρ, rowW cA q ρ]) (fun _ => [rowW cA (r 5) ρ, rowW cA q ρ]) (c_X1_copyOf l D cA cB (r 5) q (σ 5) ρ) kv_X1_copyOf ml_X3_33 dX3_mark_21 rfl rfl rfl rfl (segOk [6, 7, 0, 1, 2, 3, 4, 5] rfl rfl rfl rfl) (fun _ => segOk [6, 7, 0, 1, 2, 3, 4, 5] rfl rfl rfl rfl) rfl (Nat.le_of_ble_eq_true rfl) (fun v u h => ?_)
      subst h
      refine r_st (st' := []) rfl ?_
      exact r_vret () dX3_mark_24 (rfl) (rfl)

set_option maxRecDepth 100000 in
set_option maxHeartbeats 4000000 in
theorem c_X3_returnToMark (l : Launch) (D : va_G) (cA cB : ClassId) (t : Nat → Nat) (r : Nat → Nat → Nat) (σ : Nat → Nat → Int32) (h : Nat) (hh : h ≤ 5) (q : Nat → Nat) (ρ : Nat → Int32)  : Mt l D (tyS cA cB) yX3_returnToMark cX3_returnToMark 2 none ({ frames := 1, cells := 0, slots := 0, locals := 22 } : Room) [.ref (t 0), .ref (q 0)] (stW cA cB t r σ (nI (h)) ++ (rowW cA q ρ)) Unit (fun v _ => v = none) (fun _ => stW cA cB t r σ (nI h) ++ (rowW cA q (σ h))) 0 0 := by
  refine mt_in RX3 ([some (.ref (t 0)), some (.ref (q 0))]) rfl (by decide +kernel) rfl (Nat.le_of_ble_eq_true rfl) rfl rfl (fun X sz => ?_)
  refine r_aload_n 0 dX3_returnToMark_0 rfl rfl ?_
  refine r_get 0 fk_X3_25 dX3_returnToMark_1 rfl rfl ?_
  refine r_iconst (nI 5) dX3_returnToMark_4 (by decide +kernel) ?_
  refine r_callS2 (As := [.int (nI h), .int (nI 5)]) (st := []) (fun _ => stW cA cB t r σ (nI (h)) ++ (rowW cA q ρ)) [stW cA cB t r σ (nI (h)), rowW cA q ρ] [] [stW cA cB t r σ (nI (h)), rowW cA q ρ] (fun _ => [stW cA cB t r σ (nI (h)), rowW cA q ρ]) (fun _ => []) (c_X4_within l D cA cB (nI (h)) (nI (5))) ks_X4_within ml_X3_29 dX3_returnToMark_5 rfl rfl (segOk [0, 1] rfl rfl rfl rfl) (fun _ => segOk [0, 1] rfl rfl rfl rfl) rfl (Nat.le_of_ble_eq_true rfl) (fun v u h => ?_)
  subst h
  refine r_st (st' := [.int (bI (wi (nI (h)) (nI (5))))]) rfl ?_
  refine r_bif_eq 24 dX3_returnToMark_8 (by decide) (fun h1 => ?_) (fun h1 => ?_)
  · exact absurd h1 (by rw [wi_n (by omega) (by decide), decide_eq_true (show _ ≤ 5 by omega)]; decide)
  · have hz : h = 0 ∨ h = 1 ∨ h = 2 ∨ h = 3 ∨ h = 4 ∨ h = 5 := by omega
    rcases hz with rfl | rfl | rfl | rfl | rfl | rfl
    · refine r_ws (ws' := [(t 0, .inr (3, [.ref (t 1), .int (nI 0)])), (t 1, .inl (cB, 6, .inr (.inr (.inr (.inr (rA r))))))] ++ (rowW cA (r 0) (σ 0) ++ (rowW cA (r 1) (σ 1) ++ (rowW cA (r 2) (σ 2) ++ (rowW cA (r 3) (σ 3) ++ (rowW cA (r 4) (σ 4) ++ (rowW cA (r 5) (σ 5) ++ (rowW cA q ρ)))))))) rfl ?_
      refine r_aload_n 1 dX3_returnToMark_11 rfl rfl ?_
      refine r_aload_n 0 dX3_returnToMark_12 rfl rfl ?_
      refine r_get 0 fk_X3_11 dX3_returnToMark_13 rfl rfl ?_
      refine r_aload_n 0 dX3_returnToMark_16 rfl rfl ?_
      refine r_get 0 fk_X3_25 dX3_returnToMark_17 rfl rfl ?_
      refine r_aald (x := (r 0) 0) 1 0 dX3_returnToMark_20 rfl rfl rfl (Nat.le_of_ble_eq_true rfl) (Nat.le_of_ble_eq_true rfl) rfl ?_
      refine r_callV2 (As := [.ref ((r 0) 0)]) (st := []) (fun _ => [(t 0, .inr (3, [.ref (t 1), .int (nI 0)])), (t 1, .inl (cB, 6, .inr (.inr (.inr (.inr (rA r))))))] ++ (rowW cA (r 0) (σ 0) ++ (rowW cA (r 1) (σ 1) ++ (rowW cA (r 2) (σ 2) ++ (rowW cA (r 3) (σ 3) ++ (rowW cA (r 4) (σ 4) ++ (rowW cA (r 5) (σ 5) ++ (rowW cA q (σ 0))))))))) [[(t 0, .inr (3, [.ref (t 1), .int (nI 0)])), (t 1, .inl (cB, 6, .inr (.inr (.inr (.inr (rA r))))))], rowW cA (r 0) (σ 0), rowW cA (r 1) (σ 1), rowW cA (r 2) (σ 2), rowW cA (r 3) (σ 3), rowW cA (r 4) (σ 4), rowW cA (r 5) (σ 5), rowW cA q ρ] [rowW cA q ρ, rowW cA (r 0) (σ 0)] [[(t 0, .inr (3, [.ref (t 1), .int (nI 0)])), (t 1, .inl (cB, 6, .inr (.inr (.inr (.inr (rA r))))))], rowW cA (r 1) (σ 1), rowW cA (r 2) (σ 2), rowW cA (r 3) (σ 3), rowW cA (r 4) (σ 4), rowW cA (r 5) (σ 5)] (fun _ => [[(t 0, .inr (3, [.ref (t 1), .int (nI 0)])), (t 1, .inl (cB, 6, .inr (.inr (.inr (.inr (rA r))))))], rowW cA (r 0) (σ 0), rowW cA (r 1) (σ 1), rowW cA (r 2) (σ 2), rowW cA (r 3) (σ 3), rowW cA (r 4) (σ 4), rowW cA (r 5) (σ 5), rowW cA q (σ 0)]) (fun _ => [rowW cA q (σ 0), rowW cA (r 0) (σ 0)]) (c_X1_copyOf l D cA cB q (r 0) ρ (σ 0)) kv_X1_copyOf ml_X3_33 dX3_returnToMark_21 rfl rfl rfl rfl (segOk [7, 1, 0, 2, 3, 4, 5, 6] rfl rfl rfl rfl) (fun _ => segOk [7, 1, 0, 2, 3, 4, 5, 6] rfl rfl rfl rfl) rfl (Nat.le_of_ble_eq_true rfl) (fun v u h => ?_)
      subst h
      refine r_st (st' := []) rfl ?_
      exact r_vret () dX3_returnToMark_24 (rfl) (rfl)
    · refine r_ws (ws' := [(t 0, .inr (3, [.ref (t 1), .int (nI 1)])), (t 1, .inl (cB, 6, .inr (.inr (.inr (.inr (rA r))))))] ++ (rowW cA (r 0) (σ 0) ++ (rowW cA (r 1) (σ 1) ++ (rowW cA (r 2) (σ 2) ++ (rowW cA (r 3) (σ 3) ++ (rowW cA (r 4) (σ 4) ++ (rowW cA (r 5) (σ 5) ++ (rowW cA q ρ)))))))) rfl ?_
      refine r_aload_n 1 dX3_returnToMark_11 rfl rfl ?_
      refine r_aload_n 0 dX3_returnToMark_12 rfl rfl ?_
      refine r_get 0 fk_X3_11 dX3_returnToMark_13 rfl rfl ?_
      refine r_aload_n 0 dX3_returnToMark_16 rfl rfl ?_
      refine r_get 0 fk_X3_25 dX3_returnToMark_17 rfl rfl ?_
      refine r_aald (x := (r 1) 0) 1 1 dX3_returnToMark_20 rfl rfl rfl (Nat.le_of_ble_eq_true rfl) (Nat.le_of_ble_eq_true rfl) rfl ?_
      refine r_callV2 (As := [.ref ((r 1) 0)]) (st := []) (fun _ => [(t 0, .inr (3, [.ref (t 1), .int (nI 1)])), (t 1, .inl (cB, 6, .inr (.inr (.inr (.inr (rA r))))))] ++ (rowW cA (r 0) (σ 0) ++ (rowW cA (r 1) (σ 1) ++ (rowW cA (r 2) (σ 2) ++ (rowW cA (r 3) (σ 3) ++ (rowW cA (r 4) (σ 4) ++ (rowW cA (r 5) (σ 5) ++ (rowW cA q (σ 1))))))))) [[(t 0, .inr (3, [.ref (t 1), .int (nI 1)])), (t 1, .inl (cB, 6, .inr (.inr (.inr (.inr (rA r))))))], rowW cA (r 0) (σ 0), rowW cA (r 1) (σ 1), rowW cA (r 2) (σ 2), rowW cA (r 3) (σ 3), rowW cA (r 4) (σ 4), rowW cA (r 5) (σ 5), rowW cA q ρ] [rowW cA q ρ, rowW cA (r 1) (σ 1)] [[(t 0, .inr (3, [.ref (t 1), .int (nI 1)])), (t 1, .inl (cB, 6, .inr (.inr (.inr (.inr (rA r))))))], rowW cA (r 0) (σ 0), rowW cA (r 2) (σ 2), rowW cA (r 3) (σ 3), rowW cA (r 4) (σ 4), rowW cA (r 5) (σ 5)] (fun _ => [[(t 0, .inr (3, [.ref (t 1), .int (nI 1)])), (t 1, .inl (cB, 6, .inr (.inr (.inr (.inr (rA r))))))], rowW cA (r 0) (σ 0), rowW cA (r 1) (σ 1), rowW cA (r 2) (σ 2), rowW cA (r 3) (σ 3), rowW cA (r 4) (σ 4), rowW cA (r 5) (σ 5), rowW cA q (σ 1)]) (fun _ => [rowW cA q (σ 1), rowW cA (r 1) (σ 1)]) (c_X1_copyOf l D cA cB q (r 1) ρ (σ 1)) kv_X1_copyOf ml_X3_33 dX3_returnToMark_21 rfl rfl rfl rfl (segOk [7, 2, 0, 1, 3, 4, 5, 6] rfl rfl rfl rfl) (fun _ => segOk [7, 2, 0, 1, 3, 4, 5, 6] rfl rfl rfl rfl) rfl (Nat.le_of_ble_eq_true rfl) (fun v u h => ?_)
      subst h
      refine r_st (st' := []) rfl ?_
      exact r_vret () dX3_returnToMark_24 (rfl) (rfl)
    · refine r_ws (ws' := [(t 0, .inr (3, [.ref (t 1), .int (nI 2)])), (t 1, .inl (cB, 6, .inr (.inr (.inr (.inr (rA r))))))] ++ (rowW cA (r 0) (σ 0) ++ (rowW cA (r 1) (σ 1) ++ (rowW cA (r 2) (σ 2) ++ (rowW cA (r 3) (σ 3) ++ (rowW cA (r 4) (σ 4) ++ (rowW cA (r 5) (σ 5) ++ (rowW cA q ρ)))))))) rfl ?_
      refine r_aload_n 1 dX3_returnToMark_11 rfl rfl ?_
      refine r_aload_n 0 dX3_returnToMark_12 rfl rfl ?_
      refine r_get 0 fk_X3_11 dX3_returnToMark_13 rfl rfl ?_
      refine r_aload_n 0 dX3_returnToMark_16 rfl rfl ?_
      refine r_get 0 fk_X3_25 dX3_returnToMark_17 rfl rfl ?_
      refine r_aald (x := (r 2) 0) 1 2 dX3_returnToMark_20 rfl rfl rfl (Nat.le_of_ble_eq_true rfl) (Nat.le_of_ble_eq_true rfl) rfl ?_
      refine r_callV2 (As := [.ref ((r 2) 0)]) (st := []) (fun _ => [(t 0, .inr (3, [.ref (t 1), .int (nI 2)])), (t 1, .inl (cB, 6, .inr (.inr (.inr (.inr (rA r))))))] ++ (rowW cA (r 0) (σ 0) ++ (rowW cA (r 1) (σ 1) ++ (rowW cA (r 2) (σ 2) ++ (rowW cA (r 3) (σ 3) ++ (rowW cA (r 4) (σ 4) ++ (rowW cA (r 5) (σ 5) ++ (rowW cA q (σ 2))))))))) [[(t 0, .inr (3, [.ref (t 1), .int (nI 2)])), (t 1, .inl (cB, 6, .inr (.inr (.inr (.inr (rA r))))))], rowW cA (r 0) (σ 0), rowW cA (r 1) (σ 1), rowW cA (r 2) (σ 2), rowW cA (r 3) (σ 3), rowW cA (r 4) (σ 4), rowW cA (r 5) (σ 5), rowW cA q ρ] [rowW cA q ρ, rowW cA (r 2) (σ 2)] [[(t 0, .inr (3, [.ref (t 1), .int (nI 2)])), (t 1, .inl (cB, 6, .inr (.inr (.inr (.inr (rA r))))))], rowW cA (r 0) (σ 0), rowW cA (r 1) (σ 1), rowW cA (r 3) (σ 3), rowW cA (r 4) (σ 4), rowW cA (r 5) (σ 5)] (fun _ => [[(t 0, .inr (3, [.ref (t 1), .int (nI 2)])), (t 1, .inl (cB, 6, .inr (.inr (.inr (.inr (rA r))))))], rowW cA (r 0) (σ 0), rowW cA (r 1) (σ 1), rowW cA (r 2) (σ 2), rowW cA (r 3) (σ 3), rowW cA (r 4) (σ 4), rowW cA (r 5) (σ 5), rowW cA q (σ 2)]) (fun _ => [rowW cA q (σ 2), rowW cA (r 2) (σ 2)]) (c_X1_copyOf l D cA cB q (r 2) ρ (σ 2)) kv_X1_copyOf ml_X3_33 dX3_returnToMark_21 rfl rfl rfl rfl (segOk [7, 3, 0, 1, 2, 4, 5, 6] rfl rfl rfl rfl) (fun _ => segOk [7, 3, 0, 1, 2, 4, 5, 6] rfl rfl rfl rfl) rfl (Nat.le_of_ble_eq_true rfl) (fun v u h => ?_)
      subst h
      refine r_st (st' := []) rfl ?_
      exact r_vret () dX3_returnToMark_24 (rfl) (rfl)
    · refine r_ws (ws' := [(t 0, .inr (3, [.ref (t 1), .int (nI 3)])), (t 1, .inl (cB, 6, .inr (.inr (.inr (.inr (rA r))))))] ++ (rowW cA (r 0) (σ 0) ++ (rowW cA (r 1) (σ 1) ++ (rowW cA (r 2) (σ 2) ++ (rowW cA (r 3) (σ 3) ++ (rowW cA (r 4) (σ 4) ++ (rowW cA (r 5) (σ 5) ++ (rowW cA q ρ)))))))) rfl ?_
      refine r_aload_n 1 dX3_returnToMark_11 rfl rfl ?_
      refine r_aload_n 0 dX3_returnToMark_12 rfl rfl ?_
      refine r_get 0 fk_X3_11 dX3_returnToMark_13 rfl rfl ?_
      refine r_aload_n 0 dX3_returnToMark_16 rfl rfl ?_
      refine r_get 0 fk_X3_25 dX3_returnToMark_17 rfl rfl ?_
      refine r_aald (x := (r 3) 0) 1 3 dX3_returnToMark_20 rfl rfl rfl (Nat.le_of_ble_eq_true rfl) (Nat.le_of_ble_eq_true rfl) rfl ?_
      refine r_callV2 (As := [.ref ((r 3) 0)]) (st := []) (fun _ => [(t 0, .inr (3, [.ref (t 1), .int (nI 3)])), (t 1, .inl (cB, 6, .inr (.inr (.inr (.inr (rA r))))))] ++ (rowW cA (r 0) (σ 0) ++ (rowW cA (r 1) (σ 1) ++ (rowW cA (r 2) (σ 2) ++ (rowW cA (r 3) (σ 3) ++ (rowW cA (r 4) (σ 4) ++ (rowW cA (r 5) (σ 5) ++ (rowW cA q (σ 3))))))))) [[(t 0, .inr (3, [.ref (t 1), .int (nI 3)])), (t 1, .inl (cB, 6, .inr (.inr (.inr (.inr (rA r))))))], rowW cA (r 0) (σ 0), rowW cA (r 1) (σ 1), rowW cA (r 2) (σ 2), rowW cA (r 3) (σ 3), rowW cA (r 4) (σ 4), rowW cA (r 5) (σ 5), rowW cA q ρ] [rowW cA q ρ, rowW cA (r 3) (σ 3)] [[(t 0, .inr (3, [.ref (t 1), .int (nI 3)])), (t 1, .inl (cB, 6, .inr (.inr (.inr (.inr (rA r))))))], rowW cA (r 0) (σ 0), rowW cA (r 1) (σ 1), rowW cA (r 2) (σ 2), rowW cA (r 4) (σ 4), rowW cA (r 5) (σ 5)] (fun _ => [[(t 0, .inr (3, [.ref (t 1), .int (nI 3)])), (t 1, .inl (cB, 6, .inr (.inr (.inr (.inr (rA r))))))], rowW cA (r 0) (σ 0), rowW cA (r 1) (σ 1), rowW cA (r 2) (σ 2), rowW cA (r 3) (σ 3), rowW cA (r 4) (σ 4), rowW cA (r 5) (σ 5), rowW cA q (σ 3)]) (fun _ => [rowW cA q (σ 3), rowW cA (r 3) (σ 3)]) (c_X1_copyOf l D cA cB q (r 3) ρ (σ 3)) kv_X1_copyOf ml_X3_33 dX3_returnToMark_21 rfl rfl rfl rfl (segOk [7, 4, 0, 1, 2, 3, 5, 6] rfl rfl rfl rfl) (fun _ => segOk [7, 4, 0, 1, 2, 3, 5, 6] rfl rfl rfl rfl) rfl (Nat.le_of_ble_eq_true rfl) (fun v u h => ?_)
      subst h
      refine r_st (st' := []) rfl ?_
      exact r_vret () dX3_returnToMark_24 (rfl) (rfl)
    · refine r_ws (ws' := [(t 0, .inr (3, [.ref (t 1), .int (nI 4)])), (t 1, .inl (cB, 6, .inr (.inr (.inr (.inr (rA r))))))] ++ (rowW cA (r 0) (σ 0) ++ (rowW cA (r 1) (σ 1) ++ (rowW cA (r 2) (σ 2) ++ (rowW cA (r 3) (σ 3) ++ (rowW cA (r 4) (σ 4) ++ (rowW cA (r 5) (σ 5) ++ (rowW cA q ρ)))))))) rfl ?_
      refine r_aload_n 1 dX3_returnToMark_11 rfl rfl ?_
      refine r_aload_n 0 dX3_returnToMark_12 rfl rfl ?_
      refine r_get 0 fk_X3_11 dX3_returnToMark_13 rfl rfl ?_
      refine r_aload_n 0 dX3_returnToMark_16 rfl rfl ?_
      refine r_get 0 fk_X3_25 dX3_returnToMark_17 rfl rfl ?_
      refine r_aald (x := (r 4) 0) 1 4 dX3_returnToMark_20 rfl rfl rfl (Nat.le_of_ble_eq_true rfl) (Nat.le_of_ble_eq_true rfl) rfl ?_
      refine r_callV2 (As := [.ref ((r 4) 0)]) (st := []) (fun _ => [(t 0, .inr (3, [.ref (t 1), .int (nI 4)])), (t 1, .inl (cB, 6, .inr (.inr (.inr (.inr (rA r))))))] ++ (rowW cA (r 0) (σ 0) ++ (rowW cA (r 1) (σ 1) ++ (rowW cA (r 2) (σ 2) ++ (rowW cA (r 3) (σ 3) ++ (rowW cA (r 4) (σ 4) ++ (rowW cA (r 5) (σ 5) ++ (rowW cA q (σ 4))))))))) [[(t 0, .inr (3, [.ref (t 1), .int (nI 4)])), (t 1, .inl (cB, 6, .inr (.inr (.inr (.inr (rA r))))))], rowW cA (r 0) (σ 0), rowW cA (r 1) (σ 1), rowW cA (r 2) (σ 2), rowW cA (r 3) (σ 3), rowW cA (r 4) (σ 4), rowW cA (r 5) (σ 5), rowW cA q ρ] [rowW cA q ρ, rowW cA (r 4) (σ 4)] [[(t 0, .inr (3, [.ref (t 1), .int (nI 4)])), (t 1, .inl (cB, 6, .inr (.inr (.inr (.inr (rA r))))))], rowW cA (r 0) (σ 0), rowW cA (r 1) (σ 1), rowW cA (r 2) (σ 2), rowW cA (r 3) (σ 3), rowW cA (r 5) (σ 5)] (fun _ => [[(t 0, .inr (3, [.ref (t 1), .int (nI 4)])), (t 1, .inl (cB, 6, .inr (.inr (.inr (.inr (rA r))))))], rowW cA (r 0) (σ 0), rowW cA (r 1) (σ 1), rowW cA (r 2) (σ 2), rowW cA (r 3) (σ 3), rowW cA (r 4) (σ 4), rowW cA (r 5) (σ 5), rowW cA q (σ 4)]) (fun _ => [rowW cA q (σ 4), rowW cA (r 4) (σ 4)]) (c_X1_copyOf l D cA cB q (r 4) ρ (σ 4)) kv_X1_copyOf ml_X3_33 dX3_returnToMark_21 rfl rfl rfl rfl (segOk [7, 5, 0, 1, 2, 3, 4, 6] rfl rfl rfl rfl) (fun _ => segOk [7, 5, 0, 1, 2, 3, 4, 6] rfl rfl rfl rfl) rfl (Nat.le_of_ble_eq_true rfl) (fun v u h => ?_)
      subst h
      refine r_st (st' := []) rfl ?_
      exact r_vret () dX3_returnToMark_24 (rfl) (rfl)
    · refine r_ws (ws' := [(t 0, .inr (3, [.ref (t 1), .int (nI 5)])), (t 1, .inl (cB, 6, .inr (.inr (.inr (.inr (rA r))))))] ++ (rowW cA (r 0) (σ 0) ++ (rowW cA (r 1) (σ 1) ++ (rowW cA (r 2) (σ 2) ++ (rowW cA (r 3) (σ 3) ++ (rowW cA (r 4) (σ 4) ++ (rowW cA (r 5) (σ 5) ++ (rowW cA q ρ)))))))) rfl ?_
      refine r_aload_n 1 dX3_returnToMark_11 rfl rfl ?_
      refine r_aload_n 0 dX3_returnToMark_12 rfl rfl ?_
      refine r_get 0 fk_X3_11 dX3_returnToMark_13 rfl rfl ?_
      refine r_aload_n 0 dX3_returnToMark_16 rfl rfl ?_
      refine r_get 0 fk_X3_25 dX3_returnToMark_17 rfl rfl ?_
      refine r_aald (x := (r 5) 0) 1 5 dX3_returnToMark_20 rfl rfl rfl (Nat.le_of_ble_eq_true rfl) (Nat.le_of_ble_eq_true rfl) rfl ?_
      refine r_callV2 (As := [.ref ((r 5) 0)]) (st := []) (fun _ => [(t 0, .inr (3, [.ref (t 1), .int (nI 5)])), (t 1, .inl (cB, 6, .inr (.inr (.inr (.inr (rA r))))))] ++ (rowW cA (r 0) (σ 0) ++ (rowW cA (r 1) (σ 1) ++ (rowW cA (r 2) (σ 2) ++ (rowW cA (r 3) (σ 3) ++ (rowW cA (r 4) (σ 4) ++ (rowW cA (r 5) (σ 5) ++ (rowW cA q (σ 5))))))))) [[(t 0, .inr (3, [.ref (t 1), .int (nI 5)])), (t 1, .inl (cB, 6, .inr (.inr (.inr (.inr (rA r))))))], rowW cA (r 0) (σ 0), rowW cA (r 1) (σ 1), rowW cA (r 2) (σ 2), rowW cA (r 3) (σ 3), rowW cA (r 4) (σ 4), rowW cA (r 5) (σ 5), rowW cA q ρ] [rowW cA q ρ, rowW cA (r 5) (σ 5)] [[(t 0, .inr (3, [.ref (t 1), .int (nI 5)])), (t 1, .inl (cB, 6, .inr (.inr (.inr (.inr (rA r))))))], rowW cA (r 0) (σ 0), rowW cA (r 1) (σ 1), rowW cA (r 2) (σ 2), rowW cA (r 3) (σ 3), rowW cA (r 4) (σ 4)] (fun _ => [[(t 0, .inr (3, [.ref (t 1), .int (nI 5)])), (t 1, .inl (cB, 6, .inr (.inr (.inr (.inr (rA r))))))], rowW cA (r 0) (σ 0), rowW cA (r 1) (σ 1), rowW cA (r 2) (σ 2), rowW cA (r 3) (σ 3), rowW cA (r 4) (σ 4), rowW cA (r 5) (σ 5), rowW cA q (σ 5)]) (fun _ => [rowW cA q (σ 5), rowW cA (r 5) (σ 5)]) (c_X1_copyOf l D cA cB q (r 5) ρ (σ 5)) kv_X1_copyOf ml_X3_33 dX3_returnToMark_21 rfl rfl rfl rfl (segOk [7, 6, 0, 1, 2, 3, 4, 5] rfl rfl rfl rfl) (fun _ => segOk [7, 6, 0, 1, 2, 3, 4, 5] rfl rfl rfl rfl) rfl (Nat.le_of_ble_eq_true rfl) (fun v u h => ?_)
      subst h
      refine r_st (st' := []) rfl ?_
      exact r_vret () dX3_returnToMark_24 (rfl) (rfl)

set_option maxRecDepth 100000 in
set_option maxHeartbeats 4000000 in
theorem c_X3_keepMark (l : Launch) (D : va_G) (cA cB : ClassId) (t : Nat → Nat) (r : Nat → Nat → Nat) (σ : Nat → Nat → Int32) (h : Nat) (hh : h ≤ 5) : Mt l D (tyS cA cB) yX3_keepMark cX3_keepMark 3 none ({ frames := 0, cells := 0, slots := 0, locals := 0 } : Room) [.ref (t 0)] (stW cA cB t r σ (nI (h))) Unit (fun v _ => v = none) (fun _ => if h < 5 then stW cA cB t r σ (nI (h + 1)) else stW cA cB t (rot r) (rot σ) (nI 5)) 0 0 := by
  refine mt_in RX3 ([some (.ref (t 0)), none, none]) rfl (by decide +kernel) rfl (Nat.le_of_ble_eq_true rfl) rfl rfl (fun X sz => ?_)
  refine r_aload_n 0 dX3_keepMark_0 rfl rfl ?_
  refine r_get 0 fk_X3_25 dX3_keepMark_1 rfl rfl ?_
  refine r_iconst (nI 5) dX3_keepMark_4 (by decide +kernel) ?_
  refine r_ncmp_ge 19 (by omega) (by omega) dX3_keepMark_5 (by decide) (fun h1 => ?_) (fun h1 => ?_)
  · obtain rfl : h = 5 := by omega
    refine r_ws (ws' := [(t 0, .inr (3, [.ref (t 1), .int (nI 5)])), (t 1, .inl (cB, 6, .inr (.inr (.inr (.inr (rA r))))))] ++ (rowW cA (r 0) (σ 0) ++ (rowW cA (r 1) (σ 1) ++ (rowW cA (r 2) (σ 2) ++ (rowW cA (r 3) (σ 3) ++ (rowW cA (r 4) (σ 4) ++ (rowW cA (r 5) (σ 5)))))))) rfl ?_
    refine r_aload_n 0 dX3_keepMark_19 rfl rfl ?_
    refine r_get 0 fk_X3_11 dX3_keepMark_20 rfl rfl ?_
    refine r_iconst (nI 0) dX3_keepMark_23 (by decide +kernel) ?_
    refine r_aald (x := (r 0) 0) 1 0 dX3_keepMark_24 rfl rfl rfl (Nat.le_of_ble_eq_true rfl) (Nat.le_of_ble_eq_true rfl) rfl ?_
    refine r_astore_n 1 ([some (.ref (t 0)), some (.ref ((r 0) 0)), none]) dX3_keepMark_25 rfl (Nat.le_of_ble_eq_true rfl) rfl rfl ?_
    refine r_iconst (nI 0) dX3_keepMark_26 (by decide +kernel) ?_
    refine r_istore_n 2 ([some (.ref (t 0)), some (.ref ((r 0) 0)), some (.int (nI 0))]) dX3_keepMark_27 rfl (Nat.le_of_ble_eq_true rfl) rfl rfl ?_
    refine r_iload_n 2 dX3_keepMark_28 rfl rfl ?_
    refine r_iconst (nI 5) dX3_keepMark_29 (by decide +kernel) ?_
    refine r_ncmp_ge 53 (by omega) (by omega) dX3_keepMark_30 (by decide) (fun h2 => ?_) (fun h2 => ?_)
    · omega
    · refine r_aload_n 0 dX3_keepMark_33 rfl rfl ?_
      refine r_get 0 fk_X3_11 dX3_keepMark_34 rfl rfl ?_
      refine r_iload_n 2 dX3_keepMark_37 rfl rfl ?_
      refine r_aload_n 0 dX3_keepMark_38 rfl rfl ?_
      refine r_get 0 fk_X3_11 dX3_keepMark_39 rfl rfl ?_
      refine r_iload_n 2 dX3_keepMark_42 rfl rfl ?_
      refine r_iconst (nI 1) dX3_keepMark_43 (by decide +kernel) ?_
      refine r_niadd dX3_keepMark_44 ?_
      refine r_top (y := nI 1) rfl ?_
      refine r_aald (x := (r 1) 0) 1 1 dX3_keepMark_45 rfl rfl rfl (Nat.le_of_ble_eq_true rfl) (Nat.le_of_ble_eq_true rfl) rfl ?_
      refine r_aast (r := (RX1, TX1, 12)) 1 8 0 ([(t 0, .inr (3, [.ref (t 1), .int (nI 5)])), (t 1, .inl (cB, 6, .inr (.inr (.inr (.inr (va_up (rA r) 0 (some ((r 1) 0))))))))] ++ (rowW cA (r 0) (σ 0) ++ (rowW cA (r 1) (σ 1) ++ (rowW cA (r 2) (σ 2) ++ (rowW cA (r 3) (σ 3) ++ (rowW cA (r 4) (σ 4) ++ (rowW cA (r 5) (σ 5)))))))) dX3_keepMark_46 rfl rfl rfl rfl rfl (Nat.le_of_ble_eq_true rfl) (Nat.le_of_ble_eq_true rfl) rfl ?_
      refine r_iinc (v := nI (1)) ([some (.ref (t 0)), some (.ref ((r 0) 0)), some (.int (nI 1))]) dX3_keepMark_47 rfl (nI_add 0 1) (Nat.le_of_ble_eq_true rfl) rfl rfl ?_
      refine r_goto 28 dX3_keepMark_50 (by decide) ?_
      refine r_iload_n 2 dX3_keepMark_28 rfl rfl ?_
      refine r_iconst (nI 5) dX3_keepMark_29 (by decide +kernel) ?_
      refine r_ncmp_ge 53 (by omega) (by omega) dX3_keepMark_30 (by decide) (fun h3 => ?_) (fun h3 => ?_)
      · omega
      · refine r_aload_n 0 dX3_keepMark_33 rfl rfl ?_
        refine r_get 0 fk_X3_11 dX3_keepMark_34 rfl rfl ?_
        refine r_iload_n 2 dX3_keepMark_37 rfl rfl ?_
        refine r_aload_n 0 dX3_keepMark_38 rfl rfl ?_
        refine r_get 0 fk_X3_11 dX3_keepMark_39 rfl rfl ?_
        refine r_iload_n 2 dX3_keepMark_42 rfl rfl ?_
        refine r_iconst (nI 1) dX3_keepMark_43 (by decide +kernel) ?_
        refine r_niadd dX3_keepMark_44 ?_
        refine r_top (y := nI 2) rfl ?_
        refine r_aald (x := (r 2) 0) 1 2 dX3_keepMark_45 rfl rfl rfl (Nat.le_of_ble_eq_true rfl) (Nat.le_of_ble_eq_true rfl) rfl ?_
        refine r_aast (r := (RX1, TX1, 12)) 1 14 1 ([(t 0, .inr (3, [.ref (t 1), .int (nI 5)])), (t 1, .inl (cB, 6, .inr (.inr (.inr (.inr (va_up (va_up (rA r) 0 (some ((r 1) 0))) 1 (some ((r 2) 0))))))))] ++ (rowW cA (r 0) (σ 0) ++ (rowW cA (r 1) (σ 1) ++ (rowW cA (r 2) (σ 2) ++ (rowW cA (r 3) (σ 3) ++ (rowW cA (r 4) (σ 4) ++ (rowW cA (r 5) (σ 5)))))))) dX3_keepMark_46 rfl rfl rfl rfl rfl (Nat.le_of_ble_eq_true rfl) (Nat.le_of_ble_eq_true rfl) rfl ?_
        refine r_iinc (v := nI (2)) ([some (.ref (t 0)), some (.ref ((r 0) 0)), some (.int (nI 2))]) dX3_keepMark_47 rfl (nI_add 1 1) (Nat.le_of_ble_eq_true rfl) rfl rfl ?_
        refine r_goto 28 dX3_keepMark_50 (by decide) ?_
        refine r_iload_n 2 dX3_keepMark_28 rfl rfl ?_
        refine r_iconst (nI 5) dX3_keepMark_29 (by decide +kernel) ?_
        refine r_ncmp_ge 53 (by omega) (by omega) dX3_keepMark_30 (by decide) (fun h4 => ?_) (fun h4 => ?_)
        · omega
        · refine r_aload_n 0 dX3_keepMark_33 rfl rfl ?_
          refine r_get 0 fk_X3_11 dX3_keepMark_34 rfl rfl ?_
          refine r_iload_n 2 dX3_keepMark_37 rfl rfl ?_
          refine r_aload_n 0 dX3_keepMark_38 rfl rfl ?_
          refine r_get 0 fk_X3_11 dX3_keepMark_39 rfl rfl ?_
          refine r_iload_n 2 dX3_keepMark_42 rfl rfl ?_
          refine r_iconst (nI 1) dX3_keepMark_43 (by decide +kernel) ?_
          refine r_niadd dX3_keepMark_44 ?_
          refine r_top (y := nI 3) rfl ?_
          refine r_aald (x := (r 3) 0) 1 3 dX3_keepMark_45 rfl rfl rfl (Nat.le_of_ble_eq_true rfl) (Nat.le_of_ble_eq_true rfl) rfl ?_
          refine r_aast (r := (RX1, TX1, 12)) 1 20 2 ([(t 0, .inr (3, [.ref (t 1), .int (nI 5)])), (t 1, .inl (cB, 6, .inr (.inr (.inr (.inr (va_up (va_up (va_up (rA r) 0 (some ((r 1) 0))) 1 (some ((r 2) 0))) 2 (some ((r 3) 0))))))))] ++ (rowW cA (r 0) (σ 0) ++ (rowW cA (r 1) (σ 1) ++ (rowW cA (r 2) (σ 2) ++ (rowW cA (r 3) (σ 3) ++ (rowW cA (r 4) (σ 4) ++ (rowW cA (r 5) (σ 5)))))))) dX3_keepMark_46 rfl rfl rfl rfl rfl (Nat.le_of_ble_eq_true rfl) (Nat.le_of_ble_eq_true rfl) rfl ?_
          refine r_iinc (v := nI (3)) ([some (.ref (t 0)), some (.ref ((r 0) 0)), some (.int (nI 3))]) dX3_keepMark_47 rfl (nI_add 2 1) (Nat.le_of_ble_eq_true rfl) rfl rfl ?_
          refine r_goto 28 dX3_keepMark_50 (by decide) ?_
          refine r_iload_n 2 dX3_keepMark_28 rfl rfl ?_
          refine r_iconst (nI 5) dX3_keepMark_29 (by decide +kernel) ?_
          refine r_ncmp_ge 53 (by omega) (by omega) dX3_keepMark_30 (by decide) (fun h5 => ?_) (fun h5 => ?_)
          · omega
          · refine r_aload_n 0 dX3_keepMark_33 rfl rfl ?_
            refine r_get 0 fk_X3_11 dX3_keepMark_34 rfl rfl ?_
            refine r_iload_n 2 dX3_keepMark_37 rfl rfl ?_
            refine r_aload_n 0 dX3_keepMark_38 rfl rfl ?_
            refine r_get 0 fk_X3_11 dX3_keepMark_39 rfl rfl ?_
            refine r_iload_n 2 dX3_keepMark_42 rfl rfl ?_
            refine r_iconst (nI 1) dX3_keepMark_43 (by decide +kernel) ?_
            refine r_niadd dX3_keepMark_44 ?_
            refine r_top (y := nI 4) rfl ?_
            refine r_aald (x := (r 4) 0) 1 4 dX3_keepMark_45 rfl rfl rfl (Nat.le_of_ble_eq_true rfl) (Nat.le_of_ble_eq_true rfl) rfl ?_
            refine r_aast (r := (RX1, TX1, 12)) 1 26 3 ([(t 0, .inr (3, [.ref (t 1), .int (nI 5)])), (t 1, .inl (cB, 6, .inr (.inr (.inr (.inr (va_up (va_up (va_up (va_up (rA r) 0 (some ((r 1) 0))) 1 (some ((r 2) 0))) 2 (some ((r 3) 0))) 3 (some ((r 4) 0))))))))] ++ (rowW cA (r 0) (σ 0) ++ (rowW cA (r 1) (σ 1) ++ (rowW cA (r 2) (σ 2) ++ (rowW cA (r 3) (σ 3) ++ (rowW cA (r 4) (σ 4) ++ (rowW cA (r 5) (σ 5)))))))) dX3_keepMark_46 rfl rfl rfl rfl rfl (Nat.le_of_ble_eq_true rfl) (Nat.le_of_ble_eq_true rfl) rfl ?_
            refine r_iinc (v := nI (4)) ([some (.ref (t 0)), some (.ref ((r 0) 0)), some (.int (nI 4))]) dX3_keepMark_47 rfl (nI_add 3 1) (Nat.le_of_ble_eq_true rfl) rfl rfl ?_
            refine r_goto 28 dX3_keepMark_50 (by decide) ?_
            refine r_iload_n 2 dX3_keepMark_28 rfl rfl ?_
            refine r_iconst (nI 5) dX3_keepMark_29 (by decide +kernel) ?_
            refine r_ncmp_ge 53 (by omega) (by omega) dX3_keepMark_30 (by decide) (fun h6 => ?_) (fun h6 => ?_)
            · omega
            · refine r_aload_n 0 dX3_keepMark_33 rfl rfl ?_
              refine r_get 0 fk_X3_11 dX3_keepMark_34 rfl rfl ?_
              refine r_iload_n 2 dX3_keepMark_37 rfl rfl ?_
              refine r_aload_n 0 dX3_keepMark_38 rfl rfl ?_
              refine r_get 0 fk_X3_11 dX3_keepMark_39 rfl rfl ?_
              refine r_iload_n 2 dX3_keepMark_42 rfl rfl ?_
              refine r_iconst (nI 1) dX3_keepMark_43 (by decide +kernel) ?_
              refine r_niadd dX3_keepMark_44 ?_
              refine r_top (y := nI 5) rfl ?_
              refine r_aald (x := (r 5) 0) 1 5 dX3_keepMark_45 rfl rfl rfl (Nat.le_of_ble_eq_true rfl) (Nat.le_of_ble_eq_true rfl) rfl ?_
              refine r_aast (r := (RX1, TX1, 12)) 1 32 4 ([(t 0, .inr (3, [.ref (t 1), .int (nI 5)])), (t 1, .inl (cB, 6, .inr (.inr (.inr (.inr (va_up (va_up (va_up (va_up (va_up (rA r) 0 (some ((r 1) 0))) 1 (some ((r 2) 0))) 2 (some ((r 3) 0))) 3 (some ((r 4) 0))) 4 (some ((r 5) 0))))))))] ++ (rowW cA (r 0) (σ 0) ++ (rowW cA (r 1) (σ 1) ++ (rowW cA (r 2) (σ 2) ++ (rowW cA (r 3) (σ 3) ++ (rowW cA (r 4) (σ 4) ++ (rowW cA (r 5) (σ 5)))))))) dX3_keepMark_46 rfl rfl rfl rfl rfl (Nat.le_of_ble_eq_true rfl) (Nat.le_of_ble_eq_true rfl) rfl ?_
              refine r_iinc (v := nI (5)) ([some (.ref (t 0)), some (.ref ((r 0) 0)), some (.int (nI 5))]) dX3_keepMark_47 rfl (nI_add 4 1) (Nat.le_of_ble_eq_true rfl) rfl rfl ?_
              refine r_goto 28 dX3_keepMark_50 (by decide) ?_
              refine r_iload_n 2 dX3_keepMark_28 rfl rfl ?_
              refine r_iconst (nI 5) dX3_keepMark_29 (by decide +kernel) ?_
              refine r_ncmp_ge 53 (by omega) (by omega) dX3_keepMark_30 (by decide) (fun h7 => ?_) (fun h7 => ?_)
              · refine r_aload_n 0 dX3_keepMark_53 rfl rfl ?_
                refine r_get 0 fk_X3_11 dX3_keepMark_54 rfl rfl ?_
                refine r_iconst (nI 5) dX3_keepMark_57 (by decide +kernel) ?_
                refine r_aload_n 1 dX3_keepMark_58 rfl rfl ?_
                refine r_aast (r := (RX1, TX1, 12)) 1 2 5 ([(t 0, .inr (3, [.ref (t 1), .int (nI 5)])), (t 1, .inl (cB, 6, .inr (.inr (.inr (.inr (va_up (va_up (va_up (va_up (va_up (va_up (rA r) 0 (some ((r 1) 0))) 1 (some ((r 2) 0))) 2 (some ((r 3) 0))) 3 (some ((r 4) 0))) 4 (some ((r 5) 0))) 5 (some ((r 0) 0))))))))] ++ (rowW cA (r 0) (σ 0) ++ (rowW cA (r 1) (σ 1) ++ (rowW cA (r 2) (σ 2) ++ (rowW cA (r 3) (σ 3) ++ (rowW cA (r 4) (σ 4) ++ (rowW cA (r 5) (σ 5)))))))) dX3_keepMark_59 rfl rfl rfl rfl rfl (Nat.le_of_ble_eq_true rfl) (Nat.le_of_ble_eq_true rfl) rfl ?_
                refine r_perm (ws' := [(t 0, .inr (3, [.ref (t 1), .int (nI 5)])), (t 1, .inl (cB, 6, .inr (.inr (.inr (.inr (va_up (va_up (va_up (va_up (va_up (va_up (rA r) 0 (some ((r 1) 0))) 1 (some ((r 2) 0))) 2 (some ((r 3) 0))) 3 (some ((r 4) 0))) 4 (some ((r 5) 0))) 5 (some ((r 0) 0))))))))] ++ (rowW cA (r 1) (σ 1) ++ (rowW cA (r 2) (σ 2) ++ (rowW cA (r 3) (σ 3) ++ (rowW cA (r 4) (σ 4) ++ (rowW cA (r 5) (σ 5) ++ (rowW cA (r 0) (σ 0)))))))) [0, 1, 8, 9, 10, 11, 12, 13, 14, 15, 16, 17, 18, 19, 20, 21, 22, 23, 24, 25, 26, 27, 28, 29, 30, 31, 32, 33, 34, 35, 36, 37, 2, 3, 4, 5, 6, 7] rfl rfl ?_
                exact r_vret () dX3_keepMark_60 (rfl) (by rw [if_neg (by omega)]; unfold stW; rw [← rot_a r]; rfl)
              · omega
  · refine r_aload_n 0 dX3_keepMark_8 rfl rfl ?_
    refine r_dup rfl dX3_keepMark_9 ?_
    refine r_get 0 fk_X3_25 dX3_keepMark_10 rfl rfl ?_
    refine r_iconst (nI 1) dX3_keepMark_13 (by decide +kernel) ?_
    refine r_niadd dX3_keepMark_14 ?_
    refine r_put 0 ([(t 0, .inr (3, [.ref (t 1), .int (nI (h + 1))])), (t 1, .inl (cB, 6, .inr (.inr (.inr (.inr (rA r)))))), ((r 0) 0, .inr (1, [.int ((σ 0) 0), .int ((σ 0) 1), .int ((σ 0) 2), .int ((σ 0) 3), .int ((σ 0) 4), .int ((σ 0) 5), .int ((σ 0) 6), .ref ((r 0) 1), .ref ((r 0) 2), .ref ((r 0) 3), .ref ((r 0) 4), .ref ((r 0) 5)])), ((r 0) 1, .inl (cA, 64, .inl (kA (σ 0)))), ((r 0) 2, .inl (cA, 64, .inl (vA (σ 0)))), ((r 0) 3, .inl (cA, 8, .inl (gA 0 (σ 0)))), ((r 0) 4, .inl (cA, 8, .inl (gA 1 (σ 0)))), ((r 0) 5, .inl (cA, 8, .inl (gA 2 (σ 0)))), ((r 1) 0, .inr (1, [.int ((σ 1) 0), .int ((σ 1) 1), .int ((σ 1) 2), .int ((σ 1) 3), .int ((σ 1) 4), .int ((σ 1) 5), .int ((σ 1) 6), .ref ((r 1) 1), .ref ((r 1) 2), .ref ((r 1) 3), .ref ((r 1) 4), .ref ((r 1) 5)])), ((r 1) 1, .inl (cA, 64, .inl (kA (σ 1)))), ((r 1) 2, .inl (cA, 64, .inl (vA (σ 1)))), ((r 1) 3, .inl (cA, 8, .inl (gA 0 (σ 1)))), ((r 1) 4, .inl (cA, 8, .inl (gA 1 (σ 1)))), ((r 1) 5, .inl (cA, 8, .inl (gA 2 (σ 1)))), ((r 2) 0, .inr (1, [.int ((σ 2) 0), .int ((σ 2) 1), .int ((σ 2) 2), .int ((σ 2) 3), .int ((σ 2) 4), .int ((σ 2) 5), .int ((σ 2) 6), .ref ((r 2) 1), .ref ((r 2) 2), .ref ((r 2) 3), .ref ((r 2) 4), .ref ((r 2) 5)])), ((r 2) 1, .inl (cA, 64, .inl (kA (σ 2)))), ((r 2) 2, .inl (cA, 64, .inl (vA (σ 2)))), ((r 2) 3, .inl (cA, 8, .inl (gA 0 (σ 2)))), ((r 2) 4, .inl (cA, 8, .inl (gA 1 (σ 2)))), ((r 2) 5, .inl (cA, 8, .inl (gA 2 (σ 2)))), ((r 3) 0, .inr (1, [.int ((σ 3) 0), .int ((σ 3) 1), .int ((σ 3) 2), .int ((σ 3) 3), .int ((σ 3) 4), .int ((σ 3) 5), .int ((σ 3) 6), .ref ((r 3) 1), .ref ((r 3) 2), .ref ((r 3) 3), .ref ((r 3) 4), .ref ((r 3) 5)])), ((r 3) 1, .inl (cA, 64, .inl (kA (σ 3)))), ((r 3) 2, .inl (cA, 64, .inl (vA (σ 3)))), ((r 3) 3, .inl (cA, 8, .inl (gA 0 (σ 3)))), ((r 3) 4, .inl (cA, 8, .inl (gA 1 (σ 3)))), ((r 3) 5, .inl (cA, 8, .inl (gA 2 (σ 3)))), ((r 4) 0, .inr (1, [.int ((σ 4) 0), .int ((σ 4) 1), .int ((σ 4) 2), .int ((σ 4) 3), .int ((σ 4) 4), .int ((σ 4) 5), .int ((σ 4) 6), .ref ((r 4) 1), .ref ((r 4) 2), .ref ((r 4) 3), .ref ((r 4) 4), .ref ((r 4) 5)])), ((r 4) 1, .inl (cA, 64, .inl (kA (σ 4)))), ((r 4) 2, .inl (cA, 64, .inl (vA (σ 4)))), ((r 4) 3, .inl (cA, 8, .inl (gA 0 (σ 4)))), ((r 4) 4, .inl (cA, 8, .inl (gA 1 (σ 4)))), ((r 4) 5, .inl (cA, 8, .inl (gA 2 (σ 4)))), ((r 5) 0, .inr (1, [.int ((σ 5) 0), .int ((σ 5) 1), .int ((σ 5) 2), .int ((σ 5) 3), .int ((σ 5) 4), .int ((σ 5) 5), .int ((σ 5) 6), .ref ((r 5) 1), .ref ((r 5) 2), .ref ((r 5) 3), .ref ((r 5) 4), .ref ((r 5) 5)])), ((r 5) 1, .inl (cA, 64, .inl (kA (σ 5)))), ((r 5) 2, .inl (cA, 64, .inl (vA (σ 5)))), ((r 5) 3, .inl (cA, 8, .inl (gA 0 (σ 5)))), ((r 5) 4, .inl (cA, 8, .inl (gA 1 (σ 5)))), ((r 5) 5, .inl (cA, 8, .inl (gA 2 (σ 5))))]) fk_X3_25 dX3_keepMark_15 rfl rfl rfl rfl (Nat.le_of_ble_eq_true rfl) rfl ?_
    exact r_vret () dX3_keepMark_18 (rfl) (by rw [if_pos (by omega)]; rfl)

theorem c_X3_keepMark_lt (l : Launch) (D : va_G) (cA cB : ClassId) (t : Nat → Nat) (r : Nat → Nat → Nat) (σ : Nat → Nat → Int32) (h : Nat) (hh : h ≤ 5) (hlt : h < 5) : Mt l D (tyS cA cB) yX3_keepMark cX3_keepMark 3 none ({ frames := 0, cells := 0, slots := 0, locals := 0 } : Room) [.ref (t 0)] (stW cA cB t r σ (nI h)) Unit (fun v _ => v = none) (fun _ => stW cA cB t r σ (nI (h + 1))) 0 0 := by
  have z := c_X3_keepMark l D cA cB t r σ h hh
  rw [if_pos hlt] at z
  exact z
theorem c_X3_keepMark_ge (l : Launch) (D : va_G) (cA cB : ClassId) (t : Nat → Nat) (r : Nat → Nat → Nat) (σ : Nat → Nat → Int32) (h : Nat) (hh : h ≤ 5) (hge : 5 ≤ h) : Mt l D (tyS cA cB) yX3_keepMark cX3_keepMark 3 none ({ frames := 0, cells := 0, slots := 0, locals := 0 } : Room) [.ref (t 0)] (stW cA cB t r σ (nI h)) Unit (fun v _ => v = none) (fun _ => stW cA cB t (rot r) (rot σ) (nI 5)) 0 0 := by
  have z := c_X3_keepMark l D cA cB t r σ h hh
  rw [if_neg (Nat.not_lt.mpr hge)] at z
  exact z
set_option maxRecDepth 100000 in
set_option maxHeartbeats 4000000 in
theorem c_X3_keep (l : Launch) (D : va_G) (cA cB : ClassId) (t : Nat → Nat) (r : Nat → Nat → Nat) (σ : Nat → Nat → Int32) (h : Nat) (hh : h ≤ 5) (q : Nat → Nat) (ρ : Nat → Int32)  : Mt l D (tyS cA cB) yX3_keep cX3_keep 2 none ({ frames := 2, cells := 0, slots := 0, locals := 43 } : Room) [.ref (t 0), .ref (q 0)] (stW cA cB t r σ (nI (h)) ++ (rowW cA q ρ)) Unit (fun v _ => v = none) (fun _ => (if h < 5 then stW cA cB t r (ups σ h ρ) (nI (h + 1)) else stW cA cB t (rot r) (rot (ups σ h ρ)) (nI 5)) ++ (rowW cA q ρ)) 0 0 := by
  refine mt_in RX3 ([some (.ref (t 0)), some (.ref (q 0))]) rfl (by decide +kernel) rfl (Nat.le_of_ble_eq_true rfl) rfl rfl (fun X sz => ?_)
  refine r_aload_n 0 dX3_keep_0 rfl rfl ?_
  refine r_aload_n 1 dX3_keep_1 rfl rfl ?_
  refine r_callV2 (As := [.ref (q 0)]) (st := []) (fun _ => stW cA cB t r (ups σ h ρ) (nI (h)) ++ (rowW cA q ρ)) [stW cA cB t r σ (nI (h)), rowW cA q ρ] [stW cA cB t r σ (nI (h)), rowW cA q ρ] [] (fun _ => [stW cA cB t r (ups σ h ρ) (nI (h)), rowW cA q ρ]) (fun _ => [stW cA cB t r (ups σ h ρ) (nI (h)), rowW cA q ρ]) (c_X3_mark l D cA cB t r σ h hh q ρ) kv_X3_mark ml_X3_18 dX3_keep_2 rfl rfl rfl rfl (segOk [0, 1] rfl rfl rfl rfl) (fun _ => segOk [0, 1] rfl rfl rfl rfl) rfl (Nat.le_of_ble_eq_true rfl) (fun v u h => ?_)
  subst h
  refine r_st (st' := []) rfl ?_
  refine r_aload_n 0 dX3_keep_5 rfl rfl ?_
  rcases Nat.lt_or_ge h 5 with hlt | hge
  · refine r_callV2 (As := []) (st := []) (fun _ => stW cA cB t r (ups σ h ρ) (nI (h + 1)) ++ (rowW cA q ρ)) [stW cA cB t r (ups σ h ρ) (nI (h)), rowW cA q ρ] [stW cA cB t r (ups σ h ρ) (nI (h))] [rowW cA q ρ] (fun _ => [stW cA cB t r (ups σ h ρ) (nI (h + 1)), rowW cA q ρ]) (fun _ => [stW cA cB t r (ups σ h ρ) (nI (h + 1))]) (c_X3_keepMark_lt l D cA cB t r (ups σ h ρ) h hh hlt) kv_X3_keepMark ml_X3_22 dX3_keep_6 rfl rfl rfl rfl (segOk [0, 1] rfl rfl rfl rfl) (fun _ => segOk [0, 1] rfl rfl rfl rfl) rfl (Nat.le_of_ble_eq_true rfl) (fun v u h => ?_)
    subst h
    refine r_st (st' := []) rfl ?_
    exact r_vret () dX3_keep_9 (rfl) (by rw [if_pos hlt])
  · refine r_callV2 (As := []) (st := []) (fun _ => stW cA cB t (rot r) (rot (ups σ h ρ)) (nI (5)) ++ (rowW cA q ρ)) [stW cA cB t r (ups σ h ρ) (nI (h)), rowW cA q ρ] [stW cA cB t r (ups σ h ρ) (nI (h))] [rowW cA q ρ] (fun _ => [stW cA cB t (rot r) (rot (ups σ h ρ)) (nI (5)), rowW cA q ρ]) (fun _ => [stW cA cB t (rot r) (rot (ups σ h ρ)) (nI (5))]) (c_X3_keepMark_ge l D cA cB t r (ups σ h ρ) h hh hge) kv_X3_keepMark ml_X3_22 dX3_keep_6 rfl rfl rfl rfl (segOk [0, 1] rfl rfl rfl rfl) (fun _ => segOk [0, 1] rfl rfl rfl rfl) rfl (Nat.le_of_ble_eq_true rfl) (fun v u h => ?_)
    subst h
    refine r_st (st' := []) rfl ?_
    exact r_vret () dX3_keep_9 (rfl) (by rw [if_neg (Nat.not_lt.mpr hge)])

set_option maxRecDepth 100000 in
set_option maxHeartbeats 4000000 in
theorem c_X3_goBack (l : Launch) (D : va_G) (cA cB : ClassId) (t : Nat → Nat) (r : Nat → Nat → Nat) (σ : Nat → Nat → Int32) (h : Nat) (hh : h ≤ 5) (q : Nat → Nat) (ρ : Nat → Int32)  : Mt l D (tyS cA cB) yX3_goBack cX3_goBack 2 (some .boolean) ({ frames := 2, cells := 0, slots := 0, locals := 43 } : Room) [.ref (t 0), .ref (q 0)] (stW cA cB t r σ (nI (h)) ++ (rowW cA q ρ)) Unit (fun v _ => v = some (.int (bI (decide (0 < h))))) (fun _ => stW cA cB t r σ (nI (h - 1)) ++ (rowW cA q (if 0 < h then σ (h - 1) else ρ))) 0 0 := by
  refine mt_in RX3 ([some (.ref (t 0)), some (.ref (q 0))]) rfl (by decide +kernel) rfl (Nat.le_of_ble_eq_true rfl) rfl rfl (fun X sz => ?_)
  refine r_aload_n 0 dX3_goBack_0 rfl rfl ?_
  refine r_get 0 fk_X3_25 dX3_goBack_1 rfl rfl ?_
  refine r_if_ne 9 dX3_goBack_4 (by decide) (fun h1 => ?_) (fun h1 => ?_)
  · have hp : 0 < h := by rcases Nat.eq_zero_or_pos h with z | z; exact absurd (by rw [z]; rfl) h1; exact z
    refine r_aload_n 0 dX3_goBack_9 rfl rfl ?_
    refine r_dup rfl dX3_goBack_10 ?_
    refine r_get 0 fk_X3_25 dX3_goBack_11 rfl rfl ?_
    refine r_iconst (nI 1) dX3_goBack_14 (by decide +kernel) ?_
    refine r_nisub (by omega) dX3_goBack_15 ?_
    refine r_put 0 ([(t 0, .inr (3, [.ref (t 1), .int (nI (h - 1))])), (t 1, .inl (cB, 6, .inr (.inr (.inr (.inr (rA r)))))), ((r 0) 0, .inr (1, [.int ((σ 0) 0), .int ((σ 0) 1), .int ((σ 0) 2), .int ((σ 0) 3), .int ((σ 0) 4), .int ((σ 0) 5), .int ((σ 0) 6), .ref ((r 0) 1), .ref ((r 0) 2), .ref ((r 0) 3), .ref ((r 0) 4), .ref ((r 0) 5)])), ((r 0) 1, .inl (cA, 64, .inl (kA (σ 0)))), ((r 0) 2, .inl (cA, 64, .inl (vA (σ 0)))), ((r 0) 3, .inl (cA, 8, .inl (gA 0 (σ 0)))), ((r 0) 4, .inl (cA, 8, .inl (gA 1 (σ 0)))), ((r 0) 5, .inl (cA, 8, .inl (gA 2 (σ 0)))), ((r 1) 0, .inr (1, [.int ((σ 1) 0), .int ((σ 1) 1), .int ((σ 1) 2), .int ((σ 1) 3), .int ((σ 1) 4), .int ((σ 1) 5), .int ((σ 1) 6), .ref ((r 1) 1), .ref ((r 1) 2), .ref ((r 1) 3), .ref ((r 1) 4), .ref ((r 1) 5)])), ((r 1) 1, .inl (cA, 64, .inl (kA (σ 1)))), ((r 1) 2, .inl (cA, 64, .inl (vA (σ 1)))), ((r 1) 3, .inl (cA, 8, .inl (gA 0 (σ 1)))), ((r 1) 4, .inl (cA, 8, .inl (gA 1 (σ 1)))), ((r 1) 5, .inl (cA, 8, .inl (gA 2 (σ 1)))), ((r 2) 0, .inr (1, [.int ((σ 2) 0), .int ((σ 2) 1), .int ((σ 2) 2), .int ((σ 2) 3), .int ((σ 2) 4), .int ((σ 2) 5), .int ((σ 2) 6), .ref ((r 2) 1), .ref ((r 2) 2), .ref ((r 2) 3), .ref ((r 2) 4), .ref ((r 2) 5)])), ((r 2) 1, .inl (cA, 64, .inl (kA (σ 2)))), ((r 2) 2, .inl (cA, 64, .inl (vA (σ 2)))), ((r 2) 3, .inl (cA, 8, .inl (gA 0 (σ 2)))), ((r 2) 4, .inl (cA, 8, .inl (gA 1 (σ 2)))), ((r 2) 5, .inl (cA, 8, .inl (gA 2 (σ 2)))), ((r 3) 0, .inr (1, [.int ((σ 3) 0), .int ((σ 3) 1), .int ((σ 3) 2), .int ((σ 3) 3), .int ((σ 3) 4), .int ((σ 3) 5), .int ((σ 3) 6), .ref ((r 3) 1), .ref ((r 3) 2), .ref ((r 3) 3), .ref ((r 3) 4), .ref ((r 3) 5)])), ((r 3) 1, .inl (cA, 64, .inl (kA (σ 3)))), ((r 3) 2, .inl (cA, 64, .inl (vA (σ 3)))), ((r 3) 3, .inl (cA, 8, .inl (gA 0 (σ 3)))), ((r 3) 4, .inl (cA, 8, .inl (gA 1 (σ 3)))), ((r 3) 5, .inl (cA, 8, .inl (gA 2 (σ 3)))), ((r 4) 0, .inr (1, [.int ((σ 4) 0), .int ((σ 4) 1), .int ((σ 4) 2), .int ((σ 4) 3), .int ((σ 4) 4), .int ((σ 4) 5), .int ((σ 4) 6), .ref ((r 4) 1), .ref ((r 4) 2), .ref ((r 4) 3), .ref ((r 4) 4), .ref ((r 4) 5)])), ((r 4) 1, .inl (cA, 64, .inl (kA (σ 4)))), ((r 4) 2, .inl (cA, 64, .inl (vA (σ 4)))), ((r 4) 3, .inl (cA, 8, .inl (gA 0 (σ 4)))), ((r 4) 4, .inl (cA, 8, .inl (gA 1 (σ 4)))), ((r 4) 5, .inl (cA, 8, .inl (gA 2 (σ 4)))), ((r 5) 0, .inr (1, [.int ((σ 5) 0), .int ((σ 5) 1), .int ((σ 5) 2), .int ((σ 5) 3), .int ((σ 5) 4), .int ((σ 5) 5), .int ((σ 5) 6), .ref ((r 5) 1), .ref ((r 5) 2), .ref ((r 5) 3), .ref ((r 5) 4), .ref ((r 5) 5)])), ((r 5) 1, .inl (cA, 64, .inl (kA (σ 5)))), ((r 5) 2, .inl (cA, 64, .inl (vA (σ 5)))), ((r 5) 3, .inl (cA, 8, .inl (gA 0 (σ 5)))), ((r 5) 4, .inl (cA, 8, .inl (gA 1 (σ 5)))), ((r 5) 5, .inl (cA, 8, .inl (gA 2 (σ 5))))] ++ (rowW cA q ρ)) fk_X3_25 dX3_goBack_16 rfl rfl rfl rfl (Nat.le_of_ble_eq_true rfl) rfl ?_
    refine r_ws (ws' := stW cA cB t r σ (nI (h - 1)) ++ (rowW cA q ρ)) rfl ?_
    refine r_aload_n 0 dX3_goBack_19 rfl rfl ?_
    refine r_aload_n 1 dX3_goBack_20 rfl rfl ?_
    refine r_callV2 (As := [.ref (q 0)]) (st := []) (fun _ => stW cA cB t r σ (nI (h - 1)) ++ (rowW cA q (σ (h - 1)))) [stW cA cB t r σ (nI (h - 1)), rowW cA q ρ] [stW cA cB t r σ (nI (h - 1)), rowW cA q ρ] [] (fun _ => [stW cA cB t r σ (nI (h - 1)), rowW cA q (σ (h - 1))]) (fun _ => [stW cA cB t r σ (nI (h - 1)), rowW cA q (σ (h - 1))]) (c_X3_returnToMark l D cA cB t r σ (h - 1) (by omega) q ρ) kv_X3_returnToMark ml_X3_36 dX3_goBack_21 rfl rfl rfl rfl (segOk [0, 1] rfl rfl rfl rfl) (fun _ => segOk [0, 1] rfl rfl rfl rfl) rfl (Nat.le_of_ble_eq_true rfl) (fun v u h => ?_)
    subst h
    refine r_st (st' := []) rfl ?_
    refine r_iconst (nI 1) dX3_goBack_24 (by decide +kernel) ?_
    exact r_zret () (by decide +kernel) dX3_goBack_25 (by rw [decide_eq_true hp]; rfl) (by rw [if_pos hp])
  · have hp : ¬ 0 < h := by have := (nI_inj (b := 0) (by omega) (by decide)).mp h1; omega
    refine r_iconst (nI 0) dX3_goBack_7 (by decide +kernel) ?_
    exact r_zret () (by decide +kernel) dX3_goBack_8 (by rw [decide_eq_false (by omega)]; rfl) (by rw [if_neg (by omega), show h - 1 = h by omega])
end
