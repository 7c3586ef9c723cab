section
-- ===== PART A: goes FIRST, ahead of the names: the tables' words, and 'selects' of the private methods out of them =====
/-- a private method of a class that the tables say can be made, by its rows of tables_1 -/
def lw_okq (q : MethodName × Nat) : Prop := (q.1.cls ≠ "java/lang/invoke/MethodHandle" ∧ q.1.cls ≠ "java/lang/invoke/VarHandle") ∧ Cond.instantiable q.1.cls q.2 ∈ tables_1 ∧ Cond.privateMethod q.1 ∈ tables_1 ∧ Cond.instanceMethod q.1 ∈ tables_1
theorem lw_p0 : lw_okq (⟨"CellBook$Text", "readExpression", "(III)I"⟩, 6) := ⟨⟨by decide +kernel, by decide +kernel⟩, List.mem_of_getElem? (i := 26) (by decide +kernel), List.mem_of_getElem? (i := 206) (by decide +kernel), List.mem_of_getElem? (i := 207) (by decide +kernel)⟩
theorem lw_p1 : lw_okq (⟨"CellBook$Text", "readSign", "(III)I"⟩, 6) := ⟨⟨by decide +kernel, by decide +kernel⟩, List.mem_of_getElem? (i := 26) (by decide +kernel), List.mem_of_getElem? (i := 210) (by decide +kernel), List.mem_of_getElem? (i := 211) (by decide +kernel)⟩
theorem lw_p2 : lw_okq (⟨"CellBook$Text", "readExpressions", "(IIII)I"⟩, 6) := ⟨⟨by decide +kernel, by decide +kernel⟩, List.mem_of_getElem? (i := 26) (by decide +kernel), List.mem_of_getElem? (i := 214) (by decide +kernel), List.mem_of_getElem? (i := 215) (by decide +kernel)⟩
theorem lw_p3 : lw_okq (⟨"CellBook$Text", "readBinding", "(III)I"⟩, 6) := ⟨⟨by decide +kernel, by decide +kernel⟩, List.mem_of_getElem? (i := 26) (by decide +kernel), List.mem_of_getElem? (i := 218) (by decide +kernel), List.mem_of_getElem? (i := 219) (by decide +kernel)⟩
theorem lw_p4 : lw_okq (⟨"CellBook$Text", "readName", "(I)I"⟩, 6) := ⟨⟨by decide +kernel, by decide +kernel⟩, List.mem_of_getElem? (i := 26) (by decide +kernel), List.mem_of_getElem? (i := 222) (by decide +kernel), List.mem_of_getElem? (i := 223) (by decide +kernel)⟩
theorem lw_p5 : lw_okq (⟨"CellBook$Text", "readMatch", "(III)I"⟩, 6) := ⟨⟨by decide +kernel, by decide +kernel⟩, List.mem_of_getElem? (i := 26) (by decide +kernel), List.mem_of_getElem? (i := 229) (by decide +kernel), List.mem_of_getElem? (i := 230) (by decide +kernel)⟩
theorem lw_p6 : lw_okq (⟨"CellBook$Text", "readLeaf", "(II)I"⟩, 6) := ⟨⟨by decide +kernel, by decide +kernel⟩, List.mem_of_getElem? (i := 26) (by decide +kernel), List.mem_of_getElem? (i := 236) (by decide +kernel), List.mem_of_getElem? (i := 237) (by decide +kernel)⟩
theorem lw_p7 : lw_okq (⟨"CellBook", "follow", "(I)V"⟩, 6) := ⟨⟨by decide +kernel, by decide +kernel⟩, List.mem_of_getElem? (i := 11) (by decide +kernel), List.mem_of_getElem? (i := 243) (by decide +kernel), List.mem_of_getElem? (i := 244) (by decide +kernel)⟩
theorem lw_p8 : lw_okq (⟨"CellBook", "findDefiners", "()V"⟩, 6) := ⟨⟨by decide +kernel, by decide +kernel⟩, List.mem_of_getElem? (i := 11) (by decide +kernel), List.mem_of_getElem? (i := 247) (by decide +kernel), List.mem_of_getElem? (i := 248) (by decide +kernel)⟩
theorem lw_p9 : lw_okq (⟨"CellBook", "findWays", "()V"⟩, 6) := ⟨⟨by decide +kernel, by decide +kernel⟩, List.mem_of_getElem? (i := 11) (by decide +kernel), List.mem_of_getElem? (i := 252) (by decide +kernel), List.mem_of_getElem? (i := 253) (by decide +kernel)⟩
theorem lw_p10 : lw_okq (⟨"CellBook", "othersUsedBy", "(I)I"⟩, 6) := ⟨⟨by decide +kernel, by decide +kernel⟩, List.mem_of_getElem? (i := 11) (by decide +kernel), List.mem_of_getElem? (i := 260) (by decide +kernel), List.mem_of_getElem? (i := 261) (by decide +kernel)⟩
theorem lw_p11 : lw_okq (⟨"CellBook", "cellsDefining", "(I)I"⟩, 6) := ⟨⟨by decide +kernel, by decide +kernel⟩, List.mem_of_getElem? (i := 11) (by decide +kernel), List.mem_of_getElem? (i := 264) (by decide +kernel), List.mem_of_getElem? (i := 265) (by decide +kernel)⟩
theorem lw_p12 : lw_okq (⟨"CellBook", "faultOf", "(I)I"⟩, 6) := ⟨⟨by decide +kernel, by decide +kernel⟩, List.mem_of_getElem? (i := 11) (by decide +kernel), List.mem_of_getElem? (i := 269) (by decide +kernel), List.mem_of_getElem? (i := 270) (by decide +kernel)⟩
theorem lw_p13 : lw_okq (⟨"CellBook", "usesMissingName", "(LCellBook$Cell;)Z"⟩, 6) := ⟨⟨by decide +kernel, by decide +kernel⟩, List.mem_of_getElem? (i := 11) (by decide +kernel), List.mem_of_getElem? (i := 273) (by decide +kernel), List.mem_of_getElem? (i := 274) (by decide +kernel)⟩
theorem lw_p14 : lw_okq (⟨"CellBook", "spreadStale", "(I)V"⟩, 6) := ⟨⟨by decide +kernel, by decide +kernel⟩, List.mem_of_getElem? (i := 11) (by decide +kernel), List.mem_of_getElem? (i := 277) (by decide +kernel), List.mem_of_getElem? (i := 278) (by decide +kernel)⟩
theorem lw_p15 : lw_okq (⟨"CellBook", "makeUsersStale", "(I)I"⟩, 6) := ⟨⟨by decide +kernel, by decide +kernel⟩, List.mem_of_getElem? (i := 11) (by decide +kernel), List.mem_of_getElem? (i := 281) (by decide +kernel), List.mem_of_getElem? (i := 282) (by decide +kernel)⟩
def lw_privs_1 : List (MethodName × Nat) := [(⟨"CellBook$Text", "readExpression", "(III)I"⟩, 6), (⟨"CellBook$Text", "readSign", "(III)I"⟩, 6), (⟨"CellBook$Text", "readExpressions", "(IIII)I"⟩, 6), (⟨"CellBook$Text", "readBinding", "(III)I"⟩, 6), (⟨"CellBook$Text", "readName", "(I)I"⟩, 6), (⟨"CellBook$Text", "readMatch", "(III)I"⟩, 6), (⟨"CellBook$Text", "readLeaf", "(II)I"⟩, 6), (⟨"CellBook", "follow", "(I)V"⟩, 6), (⟨"CellBook", "findDefiners", "()V"⟩, 6), (⟨"CellBook", "findWays", "()V"⟩, 6), (⟨"CellBook", "othersUsedBy", "(I)I"⟩, 6), (⟨"CellBook", "cellsDefining", "(I)I"⟩, 6), (⟨"CellBook", "faultOf", "(I)I"⟩, 6), (⟨"CellBook", "usesMissingName", "(LCellBook$Cell;)Z"⟩, 6), (⟨"CellBook", "spreadStale", "(I)V"⟩, 6), (⟨"CellBook", "makeUsersStale", "(I)I"⟩, 6)]
theorem lw_r1 : ∀ q ∈ lw_privs_1, lw_okq q := List.forall_mem_cons.mpr ⟨lw_p0, List.forall_mem_cons.mpr ⟨lw_p1, List.forall_mem_cons.mpr ⟨lw_p2, List.forall_mem_cons.mpr ⟨lw_p3, List.forall_mem_cons.mpr ⟨lw_p4, List.forall_mem_cons.mpr ⟨lw_p5, List.forall_mem_cons.mpr ⟨lw_p6, List.forall_mem_cons.mpr ⟨lw_p7, List.forall_mem_cons.mpr ⟨lw_p8, List.forall_mem_cons.mpr ⟨lw_p9, List.forall_mem_cons.mpr ⟨lw_p10, List.forall_mem_cons.mpr ⟨lw_p11, List.forall_mem_cons.mpr ⟨lw_p12, List.forall_mem_cons.mpr ⟨lw_p13, List.forall_mem_cons.mpr ⟨lw_p14, List.forall_mem_cons.mpr ⟨lw_p15, fun _ h => absurd h List.not_mem_nil⟩⟩⟩⟩⟩⟩⟩⟩⟩⟩⟩⟩⟩⟩⟩⟩
theorem lw_p16 : lw_okq (⟨"CellBook", "nextToWorkOn", "()I"⟩, 6) := ⟨⟨by decide +kernel, by decide +kernel⟩, List.mem_of_getElem? (i := 11) (by decide +kernel), List.mem_of_getElem? (i := 301) (by decide +kernel), List.mem_of_getElem? (i := 302) (by decide +kernel)⟩
theorem lw_p17 : lw_okq (⟨"CellBook", "staleCells", "()I"⟩, 6) := ⟨⟨by decide +kernel, by decide +kernel⟩, List.mem_of_getElem? (i := 11) (by decide +kernel), List.mem_of_getElem? (i := 305) (by decide +kernel), List.mem_of_getElem? (i := 306) (by decide +kernel)⟩
theorem lw_p18 : lw_okq (⟨"CellBook", "workOn", "(I)V"⟩, 6) := ⟨⟨by decide +kernel, by decide +kernel⟩, List.mem_of_getElem? (i := 11) (by decide +kernel), List.mem_of_getElem? (i := 309) (by decide +kernel), List.mem_of_getElem? (i := 310) (by decide +kernel)⟩
theorem lw_p19 : lw_okq (⟨"CellBook", "usableCells", "()I"⟩, 6) := ⟨⟨by decide +kernel, by decide +kernel⟩, List.mem_of_getElem? (i := 11) (by decide +kernel), List.mem_of_getElem? (i := 313) (by decide +kernel), List.mem_of_getElem? (i := 314) (by decide +kernel)⟩
theorem lw_p20 : lw_okq (⟨"CellBook$Evaluator", "ofExpression", "(LCellBook$Frame;II)I"⟩, 5) := ⟨⟨by decide +kernel, by decide +kernel⟩, List.mem_of_getElem? (i := 97) (by decide +kernel), List.mem_of_getElem? (i := 364) (by decide +kernel), List.mem_of_getElem? (i := 365) (by decide +kernel)⟩
theorem lw_p21 : lw_okq (⟨"CellBook$Evaluator", "fail", "(I)I"⟩, 5) := ⟨⟨by decide +kernel, by decide +kernel⟩, List.mem_of_getElem? (i := 97) (by decide +kernel), List.mem_of_getElem? (i := 368) (by decide +kernel), List.mem_of_getElem? (i := 369) (by decide +kernel)⟩
theorem lw_p22 : lw_okq (⟨"CellBook$Evaluator", "ofBoth", "(LCellBook$Frame;II)I"⟩, 5) := ⟨⟨by decide +kernel, by decide +kernel⟩, List.mem_of_getElem? (i := 97) (by decide +kernel), List.mem_of_getElem? (i := 373) (by decide +kernel), List.mem_of_getElem? (i := 374) (by decide +kernel)⟩
theorem lw_p23 : lw_okq (⟨"CellBook$Evaluator", "hasFailed", "()Z"⟩, 5) := ⟨⟨by decide +kernel, by decide +kernel⟩, List.mem_of_getElem? (i := 97) (by decide +kernel), List.mem_of_getElem? (i := 377) (by decide +kernel), List.mem_of_getElem? (i := 378) (by decide +kernel)⟩
theorem lw_p24 : lw_okq (⟨"CellBook$Evaluator", "ofChoice", "(LCellBook$Frame;II)I"⟩, 5) := ⟨⟨by decide +kernel, by decide +kernel⟩, List.mem_of_getElem? (i := 97) (by decide +kernel), List.mem_of_getElem? (i := 382) (by decide +kernel), List.mem_of_getElem? (i := 383) (by decide +kernel)⟩
theorem lw_p25 : lw_okq (⟨"CellBook$Evaluator", "ofBinding", "(LCellBook$Frame;II)I"⟩, 5) := ⟨⟨by decide +kernel, by decide +kernel⟩, List.mem_of_getElem? (i := 97) (by decide +kernel), List.mem_of_getElem? (i := 386) (by decide +kernel), List.mem_of_getElem? (i := 387) (by decide +kernel)⟩
theorem lw_p26 : lw_okq (⟨"CellBook$Evaluator", "ofCall", "(LCellBook$Frame;II)I"⟩, 5) := ⟨⟨by decide +kernel, by decide +kernel⟩, List.mem_of_getElem? (i := 97) (by decide +kernel), List.mem_of_getElem? (i := 391) (by decide +kernel), List.mem_of_getElem? (i := 392) (by decide +kernel)⟩
theorem lw_p27 : lw_okq (⟨"CellBook$Evaluator", "ofMatch", "(LCellBook$Frame;II)I"⟩, 5) := ⟨⟨by decide +kernel, by decide +kernel⟩, List.mem_of_getElem? (i := 97) (by decide +kernel), List.mem_of_getElem? (i := 396) (by decide +kernel), List.mem_of_getElem? (i := 397) (by decide +kernel)⟩
theorem lw_p28 : lw_okq (⟨"CellBook$Evaluator", "ofPair", "(LCellBook$Frame;II)I"⟩, 5) := ⟨⟨by decide +kernel, by decide +kernel⟩, List.mem_of_getElem? (i := 97) (by decide +kernel), List.mem_of_getElem? (i := 400) (by decide +kernel), List.mem_of_getElem? (i := 401) (by decide +kernel)⟩
theorem lw_p29 : lw_okq (⟨"CellBook$Evaluator", "combine", "(CII)I"⟩, 5) := ⟨⟨by decide +kernel, by decide +kernel⟩, List.mem_of_getElem? (i := 97) (by decide +kernel), List.mem_of_getElem? (i := 404) (by decide +kernel), List.mem_of_getElem? (i := 405) (by decide +kernel)⟩
theorem lw_p30 : lw_okq (⟨"CellBook$Evaluator", "ofLeaf", "(LCellBook$Frame;I)I"⟩, 5) := ⟨⟨by decide +kernel, by decide +kernel⟩, List.mem_of_getElem? (i := 97) (by decide +kernel), List.mem_of_getElem? (i := 408) (by decide +kernel), List.mem_of_getElem? (i := 409) (by decide +kernel)⟩
theorem lw_p31 : lw_okq (⟨"CellBookModel", "reads", "(I)Z"⟩, 31) := ⟨⟨by decide +kernel, by decide +kernel⟩, List.mem_of_getElem? (i := 443) (by decide +kernel), List.mem_of_getElem? (i := 558) (by decide +kernel), List.mem_of_getElem? (i := 559) (by decide +kernel)⟩
def lw_privs_2 : List (MethodName × Nat) := [(⟨"CellBook", "nextToWorkOn", "()I"⟩, 6), (⟨"CellBook", "staleCells", "()I"⟩, 6), (⟨"CellBook", "workOn", "(I)V"⟩, 6), (⟨"CellBook", "usableCells", "()I"⟩, 6), (⟨"CellBook$Evaluator", "ofExpression", "(LCellBook$Frame;II)I"⟩, 5), (⟨"CellBook$Evaluator", "fail", "(I)I"⟩, 5), (⟨"CellBook$Evaluator", "ofBoth", "(LCellBook$Frame;II)I"⟩, 5), (⟨"CellBook$Evaluator", "hasFailed", "()Z"⟩, 5), (⟨"CellBook$Evaluator", "ofChoice", "(LCellBook$Frame;II)I"⟩, 5), (⟨"CellBook$Evaluator", "ofBinding", "(LCellBook$Frame;II)I"⟩, 5), (⟨"CellBook$Evaluator", "ofCall", "(LCellBook$Frame;II)I"⟩, 5), (⟨"CellBook$Evaluator", "ofMatch", "(LCellBook$Frame;II)I"⟩, 5), (⟨"CellBook$Evaluator", "ofPair", "(LCellBook$Frame;II)I"⟩, 5), (⟨"CellBook$Evaluator", "combine", "(CII)I"⟩, 5), (⟨"CellBook$Evaluator", "ofLeaf", "(LCellBook$Frame;I)I"⟩, 5), (⟨"CellBookModel", "reads", "(I)Z"⟩, 31)]
theorem lw_r2 : ∀ q ∈ lw_privs_2, lw_okq q := List.forall_mem_cons.mpr ⟨lw_p16, List.forall_mem_cons.mpr ⟨lw_p17, List.forall_mem_cons.mpr ⟨lw_p18, List.forall_mem_cons.mpr ⟨lw_p19, List.forall_mem_cons.mpr ⟨lw_p20, List.forall_mem_cons.mpr ⟨lw_p21, List.forall_mem_cons.mpr ⟨lw_p22, List.forall_mem_cons.mpr ⟨lw_p23, List.forall_mem_cons.mpr ⟨lw_p24, List.forall_mem_cons.mpr ⟨lw_p25, List.forall_mem_cons.mpr ⟨lw_p26, List.forall_mem_cons.mpr ⟨lw_p27, List.forall_mem_cons.mpr ⟨lw_p28, List.forall_mem_cons.mpr ⟨lw_p29, List.forall_mem_cons.mpr ⟨lw_p30, List.forall_mem_cons.mpr ⟨lw_p31, fun _ h => absurd h List.not_mem_nil⟩⟩⟩⟩⟩⟩⟩⟩⟩⟩⟩⟩⟩⟩⟩⟩
theorem lw_p32 : lw_okq (⟨"CellBookModel", "charAt", "(II)C"⟩, 31) := ⟨⟨by decide +kernel, by decide +kernel⟩, List.mem_of_getElem? (i := 443) (by decide +kernel), List.mem_of_getElem? (i := 562) (by decide +kernel), List.mem_of_getElem? (i := 563) (by decide +kernel)⟩
theorem lw_p33 : lw_okq (⟨"CellBookModel", "come", "(I)V"⟩, 31) := ⟨⟨by decide +kernel, by decide +kernel⟩, List.mem_of_getElem? (i := 443) (by decide +kernel), List.mem_of_getElem? (i := 569) (by decide +kernel), List.mem_of_getElem? (i := 570) (by decide +kernel)⟩
theorem lw_p34 : lw_okq (⟨"CellBookModel", "readOne", "(II)I"⟩, 31) := ⟨⟨by decide +kernel, by decide +kernel⟩, List.mem_of_getElem? (i := 443) (by decide +kernel), List.mem_of_getElem? (i := 576) (by decide +kernel), List.mem_of_getElem? (i := 577) (by decide +kernel)⟩
theorem lw_p35 : lw_okq (⟨"CellBookModel", "findEnds", "(I)V"⟩, 31) := ⟨⟨by decide +kernel, by decide +kernel⟩, List.mem_of_getElem? (i := 443) (by decide +kernel), List.mem_of_getElem? (i := 586) (by decide +kernel), List.mem_of_getElem? (i := 587) (by decide +kernel)⟩
theorem lw_p36 : lw_okq (⟨"CellBookModel", "isFunction", "(I)Z"⟩, 31) := ⟨⟨by decide +kernel, by decide +kernel⟩, List.mem_of_getElem? (i := 443) (by decide +kernel), List.mem_of_getElem? (i := 590) (by decide +kernel), List.mem_of_getElem? (i := 591) (by decide +kernel)⟩
theorem lw_p37 : lw_okq (⟨"CellBookModel", "becomes", "(II)V"⟩, 31) := ⟨⟨by decide +kernel, by decide +kernel⟩, List.mem_of_getElem? (i := 443) (by decide +kernel), List.mem_of_getElem? (i := 597) (by decide +kernel), List.mem_of_getElem? (i := 598) (by decide +kernel)⟩
theorem lw_p38 : lw_okq (⟨"CellBookModel", "isThere", "(I)Z"⟩, 31) := ⟨⟨by decide +kernel, by decide +kernel⟩, List.mem_of_getElem? (i := 443) (by decide +kernel), List.mem_of_getElem? (i := 601) (by decide +kernel), List.mem_of_getElem? (i := 602) (by decide +kernel)⟩
theorem lw_p39 : lw_okq (⟨"CellBookModel", "needs", "(II)Z"⟩, 31) := ⟨⟨by decide +kernel, by decide +kernel⟩, List.mem_of_getElem? (i := 443) (by decide +kernel), List.mem_of_getElem? (i := 605) (by decide +kernel), List.mem_of_getElem? (i := 606) (by decide +kernel)⟩
theorem lw_p40 : lw_okq (⟨"CellBookModel", "workOnce", "()Z"⟩, 31) := ⟨⟨by decide +kernel, by decide +kernel⟩, List.mem_of_getElem? (i := 443) (by decide +kernel), List.mem_of_getElem? (i := 617) (by decide +kernel), List.mem_of_getElem? (i := 618) (by decide +kernel)⟩
theorem lw_p41 : lw_okq (⟨"CellBookModel", "isReady", "(I)Z"⟩, 31) := ⟨⟨by decide +kernel, by decide +kernel⟩, List.mem_of_getElem? (i := 443) (by decide +kernel), List.mem_of_getElem? (i := 621) (by decide +kernel), List.mem_of_getElem? (i := 622) (by decide +kernel)⟩
theorem lw_p42 : lw_okq (⟨"CellBookModel", "fault", "(I)I"⟩, 31) := ⟨⟨by decide +kernel, by decide +kernel⟩, List.mem_of_getElem? (i := 443) (by decide +kernel), List.mem_of_getElem? (i := 625) (by decide +kernel), List.mem_of_getElem? (i := 626) (by decide +kernel)⟩
theorem lw_p43 : lw_okq (⟨"CellBookModel", "definer", "(I)I"⟩, 31) := ⟨⟨by decide +kernel, by decide +kernel⟩, List.mem_of_getElem? (i := 443) (by decide +kernel), List.mem_of_getElem? (i := 629) (by decide +kernel), List.mem_of_getElem? (i := 630) (by decide +kernel)⟩
theorem lw_p44 : lw_okq (⟨"CellBookModel", "cycles", "(I)Z"⟩, 31) := ⟨⟨by decide +kernel, by decide +kernel⟩, List.mem_of_getElem? (i := 443) (by decide +kernel), List.mem_of_getElem? (i := 633) (by decide +kernel), List.mem_of_getElem? (i := 634) (by decide +kernel)⟩
theorem lw_p45 : lw_okq (⟨"CellBookModel", "workOut", "(I)V"⟩, 31) := ⟨⟨by decide +kernel, by decide +kernel⟩, List.mem_of_getElem? (i := 443) (by decide +kernel), List.mem_of_getElem? (i := 637) (by decide +kernel), List.mem_of_getElem? (i := 638) (by decide +kernel)⟩
theorem lw_p46 : lw_okq (⟨"CellBookModel", "blocks", "(I)Z"⟩, 31) := ⟨⟨by decide +kernel, by decide +kernel⟩, List.mem_of_getElem? (i := 443) (by decide +kernel), List.mem_of_getElem? (i := 641) (by decide +kernel), List.mem_of_getElem? (i := 642) (by decide +kernel)⟩
theorem lw_p47 : lw_okq (⟨"CellBookModel", "typeOf", "(I)I"⟩, 31) := ⟨⟨by decide +kernel, by decide +kernel⟩, List.mem_of_getElem? (i := 443) (by decide +kernel), List.mem_of_getElem? (i := 645) (by decide +kernel), List.mem_of_getElem? (i := 646) (by decide +kernel)⟩
def lw_privs_3 : List (MethodName × Nat) := [(⟨"CellBookModel", "charAt", "(II)C"⟩, 31), (⟨"CellBookModel", "come", "(I)V"⟩, 31), (⟨"CellBookModel", "readOne", "(II)I"⟩, 31), (⟨"CellBookModel", "findEnds", "(I)V"⟩, 31), (⟨"CellBookModel", "isFunction", "(I)Z"⟩, 31), (⟨"CellBookModel", "becomes", "(II)V"⟩, 31), (⟨"CellBookModel", "isThere", "(I)Z"⟩, 31), (⟨"CellBookModel", "needs", "(II)Z"⟩, 31), (⟨"CellBookModel", "workOnce", "()Z"⟩, 31), (⟨"CellBookModel", "isReady", "(I)Z"⟩, 31), (⟨"CellBookModel", "fault", "(I)I"⟩, 31), (⟨"CellBookModel", "definer", "(I)I"⟩, 31), (⟨"CellBookModel", "cycles", "(I)Z"⟩, 31), (⟨"CellBookModel", "workOut", "(I)V"⟩, 31), (⟨"CellBookModel", "blocks", "(I)Z"⟩, 31), (⟨"CellBookModel", "typeOf", "(I)I"⟩, 31)]
theorem lw_r3 : ∀ q ∈ lw_privs_3, lw_okq q := List.forall_mem_cons.mpr ⟨lw_p32, List.forall_mem_cons.mpr ⟨lw_p33, List.forall_mem_cons.mpr ⟨lw_p34, List.forall_mem_cons.mpr ⟨lw_p35, List.forall_mem_cons.mpr ⟨lw_p36, List.forall_mem_cons.mpr ⟨lw_p37, List.forall_mem_cons.mpr ⟨lw_p38, List.forall_mem_cons.mpr ⟨lw_p39, List.forall_mem_cons.mpr ⟨lw_p40, List.forall_mem_cons.mpr ⟨lw_p41, List.forall_mem_cons.mpr ⟨lw_p42, List.forall_mem_cons.mpr ⟨lw_p43, List.forall_mem_cons.mpr ⟨lw_p44, List.forall_mem_cons.mpr ⟨lw_p45, List.forall_mem_cons.mpr ⟨lw_p46, List.forall_mem_cons.mpr ⟨lw_p47, fun _ h => absurd h List.not_mem_nil⟩⟩⟩⟩⟩⟩⟩⟩⟩⟩⟩⟩⟩⟩⟩⟩
theorem lw_p48 : lw_okq (⟨"CellBookModel", "ownName", "(II)Z"⟩, 31) := ⟨⟨by decide +kernel, by decide +kernel⟩, List.mem_of_getElem? (i := 443) (by decide +kernel), List.mem_of_getElem? (i := 649) (by decide +kernel), List.mem_of_getElem? (i := 650) (by decide +kernel)⟩
theorem lw_p49 : lw_okq (⟨"CellBookModel", "typeOfName", "(I)I"⟩, 31) := ⟨⟨by decide +kernel, by decide +kernel⟩, List.mem_of_getElem? (i := 443) (by decide +kernel), List.mem_of_getElem? (i := 653) (by decide +kernel), List.mem_of_getElem? (i := 654) (by decide +kernel)⟩
theorem lw_p50 : lw_okq (⟨"CellBookModel", "typeOver", "(II)I"⟩, 31) := ⟨⟨by decide +kernel, by decide +kernel⟩, List.mem_of_getElem? (i := 443) (by decide +kernel), List.mem_of_getElem? (i := 657) (by decide +kernel), List.mem_of_getElem? (i := 658) (by decide +kernel)⟩
theorem lw_p51 : lw_okq (⟨"CellBookModel", "popType", "()I"⟩, 31) := ⟨⟨by decide +kernel, by decide +kernel⟩, List.mem_of_getElem? (i := 443) (by decide +kernel), List.mem_of_getElem? (i := 661) (by decide +kernel), List.mem_of_getElem? (i := 662) (by decide +kernel)⟩
theorem lw_p52 : lw_okq (⟨"CellBookModel", "isFunctionName", "(II)Z"⟩, 31) := ⟨⟨by decide +kernel, by decide +kernel⟩, List.mem_of_getElem? (i := 443) (by decide +kernel), List.mem_of_getElem? (i := 665) (by decide +kernel), List.mem_of_getElem? (i := 666) (by decide +kernel)⟩
theorem lw_p53 : lw_okq (⟨"CellBookModel", "pushType", "(I)V"⟩, 31) := ⟨⟨by decide +kernel, by decide +kernel⟩, List.mem_of_getElem? (i := 443) (by decide +kernel), List.mem_of_getElem? (i := 669) (by decide +kernel), List.mem_of_getElem? (i := 670) (by decide +kernel)⟩
theorem lw_p54 : lw_okq (⟨"CellBookModel", "evaluate", "(II)V"⟩, 31) := ⟨⟨by decide +kernel, by decide +kernel⟩, List.mem_of_getElem? (i := 443) (by decide +kernel), List.mem_of_getElem? (i := 673) (by decide +kernel), List.mem_of_getElem? (i := 674) (by decide +kernel)⟩
theorem lw_p55 : lw_okq (⟨"CellBookModel", "enter", "(II)V"⟩, 31) := ⟨⟨by decide +kernel, by decide +kernel⟩, List.mem_of_getElem? (i := 443) (by decide +kernel), List.mem_of_getElem? (i := 677) (by decide +kernel), List.mem_of_getElem? (i := 678) (by decide +kernel)⟩
theorem lw_p56 : lw_okq (⟨"CellBookModel", "goOn", "()V"⟩, 31) := ⟨⟨by decide +kernel, by decide +kernel⟩, List.mem_of_getElem? (i := 443) (by decide +kernel), List.mem_of_getElem? (i := 681) (by decide +kernel), List.mem_of_getElem? (i := 682) (by decide +kernel)⟩
theorem lw_p57 : lw_okq (⟨"CellBookModel", "leave", "(I)V"⟩, 31) := ⟨⟨by decide +kernel, by decide +kernel⟩, List.mem_of_getElem? (i := 443) (by decide +kernel), List.mem_of_getElem? (i := 685) (by decide +kernel), List.mem_of_getElem? (i := 686) (by decide +kernel)⟩
theorem lw_p58 : lw_okq (⟨"CellBookModel", "branch", "(IIII)V"⟩, 31) := ⟨⟨by decide +kernel, by decide +kernel⟩, List.mem_of_getElem? (i := 443) (by decide +kernel), List.mem_of_getElem? (i := 689) (by decide +kernel), List.mem_of_getElem? (i := 690) (by decide +kernel)⟩
theorem lw_p59 : lw_okq (⟨"CellBookModel", "let", "(IIII)V"⟩, 31) := ⟨⟨by decide +kernel, by decide +kernel⟩, List.mem_of_getElem? (i := 443) (by decide +kernel), List.mem_of_getElem? (i := 693) (by decide +kernel), List.mem_of_getElem? (i := 694) (by decide +kernel)⟩
theorem lw_p60 : lw_okq (⟨"CellBookModel", "call", "(III)V"⟩, 31) := ⟨⟨by decide +kernel, by decide +kernel⟩, List.mem_of_getElem? (i := 443) (by decide +kernel), List.mem_of_getElem? (i := 697) (by decide +kernel), List.mem_of_getElem? (i := 698) (by decide +kernel)⟩
theorem lw_p61 : lw_okq (⟨"CellBookModel", "match", "(IIII)V"⟩, 31) := ⟨⟨by decide +kernel, by decide +kernel⟩, List.mem_of_getElem? (i := 443) (by decide +kernel), List.mem_of_getElem? (i := 701) (by decide +kernel), List.mem_of_getElem? (i := 702) (by decide +kernel)⟩
theorem lw_p62 : lw_okq (⟨"CellBookModel", "joined", "(CII)I"⟩, 31) := ⟨⟨by decide +kernel, by decide +kernel⟩, List.mem_of_getElem? (i := 443) (by decide +kernel), List.mem_of_getElem? (i := 705) (by decide +kernel), List.mem_of_getElem? (i := 706) (by decide +kernel)⟩
def lw_privs_4 : List (MethodName × Nat) := [(⟨"CellBookModel", "ownName", "(II)Z"⟩, 31), (⟨"CellBookModel", "typeOfName", "(I)I"⟩, 31), (⟨"CellBookModel", "typeOver", "(II)I"⟩, 31), (⟨"CellBookModel", "popType", "()I"⟩, 31), (⟨"CellBookModel", "isFunctionName", "(II)Z"⟩, 31), (⟨"CellBookModel", "pushType", "(I)V"⟩, 31), (⟨"CellBookModel", "evaluate", "(II)V"⟩, 31), (⟨"CellBookModel", "enter", "(II)V"⟩, 31), (⟨"CellBookModel", "goOn", "()V"⟩, 31), (⟨"CellBookModel", "leave", "(I)V"⟩, 31), (⟨"CellBookModel", "branch", "(IIII)V"⟩, 31), (⟨"CellBookModel", "let", "(IIII)V"⟩, 31), (⟨"CellBookModel", "call", "(III)V"⟩, 31), (⟨"CellBookModel", "match", "(IIII)V"⟩, 31), (⟨"CellBookModel", "joined", "(CII)I"⟩, 31)]
theorem lw_r4 : ∀ q ∈ lw_privs_4, lw_okq q := List.forall_mem_cons.mpr ⟨lw_p48, List.forall_mem_cons.mpr ⟨lw_p49, List.forall_mem_cons.mpr ⟨lw_p50, List.forall_mem_cons.mpr ⟨lw_p51, List.forall_mem_cons.mpr ⟨lw_p52, List.forall_mem_cons.mpr ⟨lw_p53, List.forall_mem_cons.mpr ⟨lw_p54, List.forall_mem_cons.mpr ⟨lw_p55, List.forall_mem_cons.mpr ⟨lw_p56, List.forall_mem_cons.mpr ⟨lw_p57, List.forall_mem_cons.mpr ⟨lw_p58, List.forall_mem_cons.mpr ⟨lw_p59, List.forall_mem_cons.mpr ⟨lw_p60, List.forall_mem_cons.mpr ⟨lw_p61, List.forall_mem_cons.mpr ⟨lw_p62, fun _ h => absurd h List.not_mem_nil⟩⟩⟩⟩⟩⟩⟩⟩⟩⟩⟩⟩⟩⟩⟩
def lw_privs : List (MethodName × Nat) := lw_privs_1 ++ (lw_privs_2 ++ (lw_privs_3 ++ (lw_privs_4)))
def lw_tbl : List Cond := k2_sels lw_privs ++ tables_1
theorem lw_privs_ok : ∀ q ∈ lw_privs, lw_okq q := by
  show ∀ q ∈ lw_privs_1 ++ (lw_privs_2 ++ (lw_privs_3 ++ (lw_privs_4))), lw_okq q
  exact List.forall_mem_append.mpr ⟨lw_r1, List.forall_mem_append.mpr ⟨lw_r2, List.forall_mem_append.mpr ⟨lw_r3, lw_r4⟩⟩⟩
end
section
/-! THE V LAYER: a walk's judgement with heap, written places and locals hidden; one world for a whole method -/
abbrev Cf : Type := Program × Launch × Env × Room × State × MethodId × Array Value × List Frame × Method × Code × Nat × Nat × Nat × (Nat → Prop) × (State → Prop)
abbrev kp (K : Cf) : Program := K.1
abbrev kl (K : Cf) : Launch := K.2.1
abbrev ke (K : Cf) : Env := K.2.2.1
abbrev kR (K : Cf) : Room := K.2.2.2.1
abbrev ks (K : Cf) : State := K.2.2.2.2.1
abbrev km (K : Cf) : MethodId := K.2.2.2.2.2.1
abbrev ka (K : Cf) : Array Value := K.2.2.2.2.2.2.1
abbrev kb (K : Cf) : List Frame := K.2.2.2.2.2.2.2.1
abbrev kM (K : Cf) : Method := K.2.2.2.2.2.2.2.2.1
abbrev kc (K : Cf) : Code := K.2.2.2.2.2.2.2.2.2.1
abbrev kn (K : Cf) : Nat := K.2.2.2.2.2.2.2.2.2.2.1
abbrev kcs (K : Cf) : Nat := K.2.2.2.2.2.2.2.2.2.2.2.1
abbrev ksl (K : Cf) : Nat := K.2.2.2.2.2.2.2.2.2.2.2.2.1
abbrev kA (K : Cf) : Nat → Prop := K.2.2.2.2.2.2.2.2.2.2.2.2.2.1
abbrev kQ (K : Cf) : State → Prop := K.2.2.2.2.2.2.2.2.2.2.2.2.2.2
abbrev kW (K : Cf) (H : Heap) (locs : List Loc) (g : JFrame) : Prop := W (kp K) (kl K) (ke K) (kR K) (ks K) (km K) (ka K) (kb K) (kM K) (kc K) H locs (kcs K) (ksl K) (kQ K) g
def V {σ : Type} (K : Cf) (wp : σ → Heap → Prop) (M : σ) (pc : Nat) (lv : List (Nat × Value)) (st : List Value) : Prop :=
  ∀ (H : Heap) (locs : List Loc) (ls : Array Slot), wp M H → va_S (kA K) (ks K).heap H locs → lv_has ls (kn K) lv → kW K H locs (F0 (km K) pc ls st)
/-- the machine and the method's bytes -/
def C0 (K : Cf) (cc : ByteArray) : Prop := (kp K).tables.exec = Jvm.exec ∧ (kc K).code = cc
theorem v_iconst {σ : Type} {K : Cf} {wp : σ → Heap → Prop} {M : σ} {cc : ByteArray} {pc : Nat} {lv : List (Nat × Value)} {rest : List Value} (h0 : C0 K cc) {n : Int} (hdg : decode cc pc = .ok (.iconst n, 1)) {v : Int32} (hv : Int32.ofInt n = v) (k : V K wp M (pc + 1) lv (.int v :: rest)) : V K wp M pc lv rest := fun H locs ls hw hS hl => lv_iconst h0.1 h0.2 hdg hv (k H locs ls hw hS hl)
theorem v_bipush {σ : Type} {K : Cf} {wp : σ → Heap → Prop} {M : σ} {cc : ByteArray} {pc : Nat} {lv : List (Nat × Value)} {rest : List Value} (h0 : C0 K cc) {n : Int} (hdg : decode cc pc = .ok (.bipush n, 2)) {v : Int32} (hv : (Int8.ofInt n).toInt32 = v) (k : V K wp M (pc + 2) lv (.int v :: rest)) : V K wp M pc lv rest := fun H locs ls hw hS hl => lv_bipush h0.1 h0.2 hdg hv (k H locs ls hw hS hl)
theorem v_sipush {σ : Type} {K : Cf} {wp : σ → Heap → Prop} {M : σ} {cc : ByteArray} {pc : Nat} {lv : List (Nat × Value)} {rest : List Value} (h0 : C0 K cc) {n : Int} (hdg : decode cc pc = .ok (.sipush n, 3)) {v : Int32} (hv : (Int16.ofInt n).toInt32 = v) (k : V K wp M (pc + 3) lv (.int v :: rest)) : V K wp M pc lv rest := fun H locs ls hw hS hl => lv_sipush h0.1 h0.2 hdg hv (k H locs ls hw hS hl)
theorem v_lconst {σ : Type} {K : Cf} {wp : σ → Heap → Prop} {M : σ} {cc : ByteArray} {pc : Nat} {lv : List (Nat × Value)} {rest : List Value} (h0 : C0 K cc) {n : Fin 2} (hdg : decode cc pc = .ok (.lconst n, 1)) {v : Int64} (hv : Int64.ofNat (n : Nat) = v) (k : V K wp M (pc + 1) lv (.long v :: rest)) : V K wp M pc lv rest := fun H locs ls hw hS hl => lv_lconst h0.1 h0.2 hdg hv (k H locs ls hw hS hl)
theorem v_null {σ : Type} {K : Cf} {wp : σ → Heap → Prop} {M : σ} {cc : ByteArray} {pc : Nat} {lv : List (Nat × Value)} {rest : List Value} (h0 : C0 K cc) (hdg : decode cc pc = .ok (.aconst_null, 1)) (k : V K wp M (pc + 1) lv (.null :: rest)) : V K wp M pc lv rest := fun H locs ls hw hS hl => lv_null h0.1 h0.2 hdg (k H locs ls hw hS hl)
theorem v_iload_n {σ : Type} {K : Cf} {wp : σ → Heap → Prop} {M : σ} {cc : ByteArray} {pc : Nat} {lv : List (Nat × Value)} {rest : List Value} (h0 : C0 K cc) {q : Fin 4} {x : Int32} (hdg : decode cc pc = .ok (.iload_n q, 1)) (j : Nat) (hj : lv[j]? = some ((q : Nat), .int x)) (k : V K wp M (pc + 1) lv (.int x :: rest)) : V K wp M pc lv rest := fun H locs ls hw hS hl => lv_iload_n h0.1 h0.2 hdg rfl (lv_at hl j hj) (k H locs ls hw hS hl)
theorem v_iload {σ : Type} {K : Cf} {wp : σ → Heap → Prop} {M : σ} {cc : ByteArray} {pc : Nat} {lv : List (Nat × Value)} {rest : List Value} (h0 : C0 K cc) {i : Nat} {x : Int32} (hdg : decode cc pc = .ok (.iload i, 2)) (j : Nat) (hj : lv[j]? = some (i, .int x)) (k : V K wp M (pc + 2) lv (.int x :: rest)) : V K wp M pc lv rest := fun H locs ls hw hS hl => lv_iload h0.1 h0.2 hdg (lv_at hl j hj) (k H locs ls hw hS hl)
theorem v_lload_n {σ : Type} {K : Cf} {wp : σ → Heap → Prop} {M : σ} {cc : ByteArray} {pc : Nat} {lv : List (Nat × Value)} {rest : List Value} (h0 : C0 K cc) {q : Fin 4} {x : Int64} (hdg : decode cc pc = .ok (.lload_n q, 1)) (j : Nat) (hj : lv[j]? = some ((q : Nat), .long x)) (k : V K wp M (pc + 1) lv (.long x :: rest)) : V K wp M pc lv rest := fun H locs ls hw hS hl => lv_lload_n h0.1 h0.2 hdg rfl (lv_at hl j hj) (k H locs ls hw hS hl)
theorem v_lload {σ : Type} {K : Cf} {wp : σ → Heap → Prop} {M : σ} {cc : ByteArray} {pc : Nat} {lv : List (Nat × Value)} {rest : List Value} (h0 : C0 K cc) {i : Nat} {x : Int64} (hdg : decode cc pc = .ok (.lload i, 2)) (j : Nat) (hj : lv[j]? = some (i, .long x)) (k : V K wp M (pc + 2) lv (.long x :: rest)) : V K wp M pc lv rest := fun H locs ls hw hS hl => lv_lload h0.1 h0.2 hdg (lv_at hl j hj) (k H locs ls hw hS hl)
theorem v_aload_n {σ : Type} {K : Cf} {wp : σ → Heap → Prop} {M : σ} {cc : ByteArray} {pc : Nat} {lv : List (Nat × Value)} {rest : List Value} (h0 : C0 K cc) {q : Fin 4} {x : Nat} (hdg : decode cc pc = .ok (.aload_n q, 1)) (j : Nat) (hj : lv[j]? = some ((q : Nat), .ref x)) (k : V K wp M (pc + 1) lv (.ref x :: rest)) : V K wp M pc lv rest := fun H locs ls hw hS hl => lv_aload_n h0.1 h0.2 hdg rfl (lv_at hl j hj) (k H locs ls hw hS hl)
theorem v_aload {σ : Type} {K : Cf} {wp : σ → Heap → Prop} {M : σ} {cc : ByteArray} {pc : Nat} {lv : List (Nat × Value)} {rest : List Value} (h0 : C0 K cc) {i : Nat} {x : Nat} (hdg : decode cc pc = .ok (.aload i, 2)) (j : Nat) (hj : lv[j]? = some (i, .ref x)) (k : V K wp M (pc + 2) lv (.ref x :: rest)) : V K wp M pc lv rest := fun H locs ls hw hS hl => lv_aload h0.1 h0.2 hdg (lv_at hl j hj) (k H locs ls hw hS hl)
theorem v_aload_nN {σ : Type} {K : Cf} {wp : σ → Heap → Prop} {M : σ} {cc : ByteArray} {pc : Nat} {lv : List (Nat × Value)} {rest : List Value} (h0 : C0 K cc) {q : Fin 4} (hdg : decode cc pc = .ok (.aload_n q, 1)) (j : Nat) (hj : lv[j]? = some ((q : Nat), .null)) (k : V K wp M (pc + 1) lv (.null :: rest)) : V K wp M pc lv rest := fun H locs ls hw hS hl => lv_aload_nN h0.1 h0.2 hdg rfl (lv_at hl j hj) (k H locs ls hw hS hl)
theorem v_aloadN {σ : Type} {K : Cf} {wp : σ → Heap → Prop} {M : σ} {cc : ByteArray} {pc : Nat} {lv : List (Nat × Value)} {rest : List Value} (h0 : C0 K cc) {i : Nat} (hdg : decode cc pc = .ok (.aload i, 2)) (j : Nat) (hj : lv[j]? = some (i, .null)) (k : V K wp M (pc + 2) lv (.null :: rest)) : V K wp M pc lv rest := fun H locs ls hw hS hl => lv_aloadN h0.1 h0.2 hdg (lv_at hl j hj) (k H locs ls hw hS hl)
theorem v_istore_n {σ : Type} {K : Cf} {wp : σ → Heap → Prop} {M : σ} {cc : ByteArray} {pc : Nat} {lv : List (Nat × Value)} {rest : List Value} (h0 : C0 K cc) {q : Fin 4} {x : Int32} (hdg : decode cc pc = .ok (.istore_n q, 1)) {lv' : List (Nat × Value)} (hn : (q : Nat) < kn K) (hl' : ((q : Nat), Value.int x) :: lv.filter (fun q9 => !(q9.1 == (q : Nat)) && !(q9.1 + 1 == (q : Nat) && q9.2.category == 2)) = lv') (k : V K wp M (pc + 1) lv' rest) : V K wp M pc lv (.int x :: rest) := fun H locs ls hw hS hl => lv_istore_n h0.1 h0.2 hdg rfl hl hn hl' (fun ls' h' => k H locs ls' hw hS h')
theorem v_istore {σ : Type} {K : Cf} {wp : σ → Heap → Prop} {M : σ} {cc : ByteArray} {pc : Nat} {lv : List (Nat × Value)} {rest : List Value} (h0 : C0 K cc) {i : Nat} {x : Int32} (hdg : decode cc pc = .ok (.istore i, 2)) {lv' : List (Nat × Value)} (hn : i < kn K) (hl' : (i, Value.int x) :: lv.filter (fun q9 => !(q9.1 == i) && !(q9.1 + 1 == i && q9.2.category == 2)) = lv') (k : V K wp M (pc + 2) lv' rest) : V K wp M pc lv (.int x :: rest) := fun H locs ls hw hS hl => lv_istore h0.1 h0.2 hdg hl hn hl' (fun ls' h' => k H locs ls' hw hS h')
theorem v_lstore_n {σ : Type} {K : Cf} {wp : σ → Heap → Prop} {M : σ} {cc : ByteArray} {pc : Nat} {lv : List (Nat × Value)} {rest : List Value} (h0 : C0 K cc) {q : Fin 4} {x : Int64} (hdg : decode cc pc = .ok (.lstore_n q, 1)) {lv' : List (Nat × Value)} (hn : (q : Nat) + 1 < kn K) (hl' : ((q : Nat), Value.long x) :: lv.filter (fun q9 => !(q9.1 == (q : Nat)) && (!(q9.1 == (q : Nat) + 1) && !(q9.1 + 1 == (q : Nat) && q9.2.category == 2))) = lv') (k : V K wp M (pc + 1) lv' rest) : V K wp M pc lv (.long x :: rest) := fun H locs ls hw hS hl => lv_lstore_n h0.1 h0.2 hdg rfl hl hn hl' (fun ls' h' => k H locs ls' hw hS h')
theorem v_lstore {σ : Type} {K : Cf} {wp : σ → Heap → Prop} {M : σ} {cc : ByteArray} {pc : Nat} {lv : List (Nat × Value)} {rest : List Value} (h0 : C0 K cc) {i : Nat} {x : Int64} (hdg : decode cc pc = .ok (.lstore i, 2)) {lv' : List (Nat × Value)} (hn : i + 1 < kn K) (hl' : (i, Value.long x) :: lv.filter (fun q9 => !(q9.1 == i) && (!(q9.1 == i + 1) && !(q9.1 + 1 == i && q9.2.category == 2))) = lv') (k : V K wp M (pc + 2) lv' rest) : V K wp M pc lv (.long x :: rest) := fun H locs ls hw hS hl => lv_lstore h0.1 h0.2 hdg hl hn hl' (fun ls' h' => k H locs ls' hw hS h')
theorem v_astore_n {σ : Type} {K : Cf} {wp : σ → Heap → Prop} {M : σ} {cc : ByteArray} {pc : Nat} {lv : List (Nat × Value)} {rest : List Value} (h0 : C0 K cc) {q : Fin 4} {x : Nat} (hdg : decode cc pc = .ok (.astore_n q, 1)) {lv' : List (Nat × Value)} (hn : (q : Nat) < kn K) (hl' : ((q : Nat), Value.ref x) :: lv.filter (fun q9 => !(q9.1 == (q : Nat)) && !(q9.1 + 1 == (q : Nat) && q9.2.category == 2)) = lv') (k : V K wp M (pc + 1) lv' rest) : V K wp M pc lv (.ref x :: rest) := fun H locs ls hw hS hl => lv_astore_n h0.1 h0.2 hdg rfl hl hn hl' (fun ls' h' => k H locs ls' hw hS h')
theorem v_astore {σ : Type} {K : Cf} {wp : σ → Heap → Prop} {M : σ} {cc : ByteArray} {pc : Nat} {lv : List (Nat × Value)} {rest : List Value} (h0 : C0 K cc) {i : Nat} {x : Nat} (hdg : decode cc pc = .ok (.astore i, 2)) {lv' : List (Nat × Value)} (hn : i < kn K) (hl' : (i, Value.ref x) :: lv.filter (fun q9 => !(q9.1 == i) && !(q9.1 + 1 == i && q9.2.category == 2)) = lv') (k : V K wp M (pc + 2) lv' rest) : V K wp M pc lv (.ref x :: rest) := fun H locs ls hw hS hl => lv_astore h0.1 h0.2 hdg hl hn hl' (fun ls' h' => k H locs ls' hw hS h')
theorem v_astore_nN {σ : Type} {K : Cf} {wp : σ → Heap → Prop} {M : σ} {cc : ByteArray} {pc : Nat} {lv : List (Nat × Value)} {rest : List Value} (h0 : C0 K cc) {q : Fin 4} (hdg : decode cc pc = .ok (.astore_n q, 1)) {lv' : List (Nat × Value)} (hn : (q : Nat) < kn K) (hl' : ((q : Nat), Value.null) :: lv.filter (fun q9 => !(q9.1 == (q : Nat)) && !(q9.1 + 1 == (q : Nat) && q9.2.category == 2)) = lv') (k : V K wp M (pc + 1) lv' rest) : V K wp M pc lv (.null :: rest) := fun H locs ls hw hS hl => lv_astore_nN h0.1 h0.2 hdg rfl hl hn hl' (fun ls' h' => k H locs ls' hw hS h')
theorem v_astoreN {σ : Type} {K : Cf} {wp : σ → Heap → Prop} {M : σ} {cc : ByteArray} {pc : Nat} {lv : List (Nat × Value)} {rest : List Value} (h0 : C0 K cc) {i : Nat} (hdg : decode cc pc = .ok (.astore i, 2)) {lv' : List (Nat × Value)} (hn : i < kn K) (hl' : (i, Value.null) :: lv.filter (fun q9 => !(q9.1 == i) && !(q9.1 + 1 == i && q9.2.category == 2)) = lv') (k : V K wp M (pc + 2) lv' rest) : V K wp M pc lv (.null :: rest) := fun H locs ls hw hS hl => lv_astoreN h0.1 h0.2 hdg hl hn hl' (fun ls' h' => k H locs ls' hw hS h')
theorem v_iinc {σ : Type} {K : Cf} {wp : σ → Heap → Prop} {M : σ} {cc : ByteArray} {pc : Nat} {lv : List (Nat × Value)} {rest : List Value} (h0 : C0 K cc) {i : Nat} {n : Int} (hdg : decode cc pc = .ok (.iinc i n, 3)) {x v : Int32} {lv' : List (Nat × Value)} (j : Nat) (hj : lv[j]? = some (i, .int x)) (hv : x + Int32.ofInt n = v) (hn : i < kn K) (hl' : (i, Value.int v) :: lv.filter (fun q9 => !(q9.1 == i) && !(q9.1 + 1 == i && q9.2.category == 2)) = lv') (k : V K wp M (pc + 3) lv' rest) : V K wp M pc lv rest := fun H locs ls hw hS hl => lv_iinc h0.1 h0.2 hdg hl hj hv hn hl' (fun ls' h' => k H locs ls' hw hS h')
theorem v_iadd {σ : Type} {K : Cf} {wp : σ → Heap → Prop} {M : σ} {cc : ByteArray} {pc : Nat} {lv : List (Nat × Value)} {rest : List Value} (h0 : C0 K cc) {x y : Int32} (hdg : decode cc pc = .ok (.iadd, 1)) (k : V K wp M (pc + 1) lv (.int (x + y) :: rest)) : V K wp M pc lv (.int y :: .int x :: rest) := fun H locs ls hw hS hl => lv_iadd h0.1 h0.2 hdg (k H locs ls hw hS hl)
theorem v_isub {σ : Type} {K : Cf} {wp : σ → Heap → Prop} {M : σ} {cc : ByteArray} {pc : Nat} {lv : List (Nat × Value)} {rest : List Value} (h0 : C0 K cc) {x y : Int32} (hdg : decode cc pc = .ok (.isub, 1)) (k : V K wp M (pc + 1) lv (.int (x - y) :: rest)) : V K wp M pc lv (.int y :: .int x :: rest) := fun H locs ls hw hS hl => lv_isub h0.1 h0.2 hdg (k H locs ls hw hS hl)
theorem v_imul {σ : Type} {K : Cf} {wp : σ → Heap → Prop} {M : σ} {cc : ByteArray} {pc : Nat} {lv : List (Nat × Value)} {rest : List Value} (h0 : C0 K cc) {x y : Int32} (hdg : decode cc pc = .ok (.imul, 1)) (k : V K wp M (pc + 1) lv (.int (x * y) :: rest)) : V K wp M pc lv (.int y :: .int x :: rest) := fun H locs ls hw hS hl => lv_imul h0.1 h0.2 hdg (k H locs ls hw hS hl)
theorem v_iand {σ : Type} {K : Cf} {wp : σ → Heap → Prop} {M : σ} {cc : ByteArray} {pc : Nat} {lv : List (Nat × Value)} {rest : List Value} (h0 : C0 K cc) {x y : Int32} (hdg : decode cc pc = .ok (.iand, 1)) (k : V K wp M (pc + 1) lv (.int (x &&& y) :: rest)) : V K wp M pc lv (.int y :: .int x :: rest) := fun H locs ls hw hS hl => lv_iand h0.1 h0.2 hdg (k H locs ls hw hS hl)
theorem v_ior {σ : Type} {K : Cf} {wp : σ → Heap → Prop} {M : σ} {cc : ByteArray} {pc : Nat} {lv : List (Nat × Value)} {rest : List Value} (h0 : C0 K cc) {x y : Int32} (hdg : decode cc pc = .ok (.ior, 1)) (k : V K wp M (pc + 1) lv (.int (x ||| y) :: rest)) : V K wp M pc lv (.int y :: .int x :: rest) := fun H locs ls hw hS hl => lv_ior h0.1 h0.2 hdg (k H locs ls hw hS hl)
theorem v_ixor {σ : Type} {K : Cf} {wp : σ → Heap → Prop} {M : σ} {cc : ByteArray} {pc : Nat} {lv : List (Nat × Value)} {rest : List Value} (h0 : C0 K cc) {x y : Int32} (hdg : decode cc pc = .ok (.ixor, 1)) (k : V K wp M (pc + 1) lv (.int (x ^^^ y) :: rest)) : V K wp M pc lv (.int y :: .int x :: rest) := fun H locs ls hw hS hl => lv_ixor h0.1 h0.2 hdg (k H locs ls hw hS hl)
theorem v_ishl {σ : Type} {K : Cf} {wp : σ → Heap → Prop} {M : σ} {cc : ByteArray} {pc : Nat} {lv : List (Nat × Value)} {rest : List Value} (h0 : C0 K cc) {x y : Int32} (hdg : decode cc pc = .ok (.ishl, 1)) (k : V K wp M (pc + 1) lv (.int (x <<< (y &&& 31)) :: rest)) : V K wp M pc lv (.int y :: .int x :: rest) := fun H locs ls hw hS hl => lv_ishl h0.1 h0.2 hdg (k H locs ls hw hS hl)
theorem v_ishr {σ : Type} {K : Cf} {wp : σ → Heap → Prop} {M : σ} {cc : ByteArray} {pc : Nat} {lv : List (Nat × Value)} {rest : List Value} (h0 : C0 K cc) {x y : Int32} (hdg : decode cc pc = .ok (.ishr, 1)) (k : V K wp M (pc + 1) lv (.int (x >>> (y &&& 31)) :: rest)) : V K wp M pc lv (.int y :: .int x :: rest) := fun H locs ls hw hS hl => lv_ishr h0.1 h0.2 hdg (k H locs ls hw hS hl)
theorem v_idiv {σ : Type} {K : Cf} {wp : σ → Heap → Prop} {M : σ} {cc : ByteArray} {pc : Nat} {lv : List (Nat × Value)} {rest : List Value} (h0 : C0 K cc) {x y : Int32} (hdg : decode cc pc = .ok (.idiv, 1)) (hne : ¬ y = 0) (k : V K wp M (pc + 1) lv (.int (x / y) :: rest)) : V K wp M pc lv (.int y :: .int x :: rest) := fun H locs ls hw hS hl => lv_idiv h0.1 h0.2 hdg hne (k H locs ls hw hS hl)
theorem v_land {σ : Type} {K : Cf} {wp : σ → Heap → Prop} {M : σ} {cc : ByteArray} {pc : Nat} {lv : List (Nat × Value)} {rest : List Value} (h0 : C0 K cc) {x y : Int64} (hdg : decode cc pc = .ok (.land, 1)) (k : V K wp M (pc + 1) lv (.long (x &&& y) :: rest)) : V K wp M pc lv (.long y :: .long x :: rest) := fun H locs ls hw hS hl => lv_land h0.1 h0.2 hdg (k H locs ls hw hS hl)
theorem v_lor {σ : Type} {K : Cf} {wp : σ → Heap → Prop} {M : σ} {cc : ByteArray} {pc : Nat} {lv : List (Nat × Value)} {rest : List Value} (h0 : C0 K cc) {x y : Int64} (hdg : decode cc pc = .ok (.lor, 1)) (k : V K wp M (pc + 1) lv (.long (x ||| y) :: rest)) : V K wp M pc lv (.long y :: .long x :: rest) := fun H locs ls hw hS hl => lv_lor h0.1 h0.2 hdg (k H locs ls hw hS hl)
theorem v_i2l {σ : Type} {K : Cf} {wp : σ → Heap → Prop} {M : σ} {cc : ByteArray} {pc : Nat} {lv : List (Nat × Value)} {rest : List Value} (h0 : C0 K cc) {x : Int32} (hdg : decode cc pc = .ok (.i2l, 1)) (k : V K wp M (pc + 1) lv (.long x.toInt64 :: rest)) : V K wp M pc lv (.int x :: rest) := fun H locs ls hw hS hl => lv_i2l h0.1 h0.2 hdg rfl (k H locs ls hw hS hl)
theorem v_l2i {σ : Type} {K : Cf} {wp : σ → Heap → Prop} {M : σ} {cc : ByteArray} {pc : Nat} {lv : List (Nat × Value)} {rest : List Value} (h0 : C0 K cc) {x : Int64} (hdg : decode cc pc = .ok (.l2i, 1)) (k : V K wp M (pc + 1) lv (.int x.toInt32 :: rest)) : V K wp M pc lv (.long x :: rest) := fun H locs ls hw hS hl => lv_l2i h0.1 h0.2 hdg rfl (k H locs ls hw hS hl)
theorem v_i2c {σ : Type} {K : Cf} {wp : σ → Heap → Prop} {M : σ} {cc : ByteArray} {pc : Nat} {lv : List (Nat × Value)} {rest : List Value} (h0 : C0 K cc) {x : Int32} (hdg : decode cc pc = .ok (.i2c, 1)) (k : V K wp M (pc + 1) lv (.int (x.toUInt32 % 65536).toInt32 :: rest)) : V K wp M pc lv (.int x :: rest) := fun H locs ls hw hS hl => lv_i2c h0.1 h0.2 hdg rfl (k H locs ls hw hS hl)
theorem v_lushr {σ : Type} {K : Cf} {wp : σ → Heap → Prop} {M : σ} {cc : ByteArray} {pc : Nat} {lv : List (Nat × Value)} {rest : List Value} (h0 : C0 K cc) {x : Int64} {y : Int32} (hdg : decode cc pc = .ok (.lushr, 1)) (k : V K wp M (pc + 1) lv (.long (x.toUInt64 >>> (y.toInt64.toUInt64 &&& Int64.toUInt64 63)).toInt64 :: rest)) : V K wp M pc lv (.int y :: .long x :: rest) := fun H locs ls hw hS hl => lv_lushr h0.1 h0.2 hdg rfl (k H locs ls hw hS hl)
theorem v_lshr {σ : Type} {K : Cf} {wp : σ → Heap → Prop} {M : σ} {cc : ByteArray} {pc : Nat} {lv : List (Nat × Value)} {rest : List Value} (h0 : C0 K cc) {x : Int64} {y : Int32} (hdg : decode cc pc = .ok (.lshr, 1)) (k : V K wp M (pc + 1) lv (.long (x >>> (y.toInt64 &&& 63)) :: rest)) : V K wp M pc lv (.int y :: .long x :: rest) := fun H locs ls hw hS hl => lv_lshr h0.1 h0.2 hdg rfl (k H locs ls hw hS hl)
theorem v_lshl {σ : Type} {K : Cf} {wp : σ → Heap → Prop} {M : σ} {cc : ByteArray} {pc : Nat} {lv : List (Nat × Value)} {rest : List Value} (h0 : C0 K cc) {x : Int64} {y : Int32} (hdg : decode cc pc = .ok (.lshl, 1)) (k : V K wp M (pc + 1) lv (.long (x <<< (y.toInt64 &&& 63)) :: rest)) : V K wp M pc lv (.int y :: .long x :: rest) := fun H locs ls hw hS hl => lv_lshl h0.1 h0.2 hdg rfl (k H locs ls hw hS hl)
theorem v_dup {σ : Type} {K : Cf} {wp : σ → Heap → Prop} {M : σ} {cc : ByteArray} {pc : Nat} {lv : List (Nat × Value)} {rest : List Value} (h0 : C0 K cc) {va : Value} (hdg : decode cc pc = .ok (.dup, 1)) (hva : va.category = 1) (k : V K wp M (pc + 1) lv (va :: va :: rest)) : V K wp M pc lv (va :: rest) := fun H locs ls hw hS hl => lv_dup h0.1 h0.2 hdg hva (k H locs ls hw hS hl)
theorem v_pop {σ : Type} {K : Cf} {wp : σ → Heap → Prop} {M : σ} {cc : ByteArray} {pc : Nat} {lv : List (Nat × Value)} {rest : List Value} (h0 : C0 K cc) {va : Value} (hdg : decode cc pc = .ok (.pop, 1)) (hva : va.category = 1) (k : V K wp M (pc + 1) lv rest) : V K wp M pc lv (va :: rest) := fun H locs ls hw hS hl => lv_pop h0.1 h0.2 hdg hva (k H locs ls hw hS hl)
theorem v_dup_x1 {σ : Type} {K : Cf} {wp : σ → Heap → Prop} {M : σ} {cc : ByteArray} {pc : Nat} {lv : List (Nat × Value)} {rest : List Value} (h0 : C0 K cc) {va vb : Value} (hdg : decode cc pc = .ok (.dup_x1, 1)) (hva : va.category = 1) (hvb : vb.category = 1) (k : V K wp M (pc + 1) lv (va :: vb :: va :: rest)) : V K wp M pc lv (va :: vb :: rest) := fun H locs ls hw hS hl => lv_dup_x1 h0.1 h0.2 hdg hva hvb (k H locs ls hw hS hl)
theorem v_dup2 {σ : Type} {K : Cf} {wp : σ → Heap → Prop} {M : σ} {cc : ByteArray} {pc : Nat} {lv : List (Nat × Value)} {rest : List Value} (h0 : C0 K cc) {va vb : Value} (hdg : decode cc pc = .ok (.dup2, 1)) (hva : va.category = 1) (hvb : vb.category = 1) (k : V K wp M (pc + 1) lv (va :: vb :: va :: vb :: rest)) : V K wp M pc lv (va :: vb :: rest) := fun H locs ls hw hS hl => lv_dup2_11 h0.1 h0.2 hdg hva hvb (k H locs ls hw hS hl)
theorem v_if_eq {σ : Type} {K : Cf} {wp : σ → Heap → Prop} {M : σ} {cc : ByteArray} {pc : Nat} {lv : List (Nat × Value)} {rest : List Value} (h0 : C0 K cc) {x : Int32} {off : Int} {tgt : Nat} (hdg : decode cc pc = .ok (.ifCond .eq off, 3)) (ht : (pc : Int) + off = (tgt : Int)) (kt : x = 0 → V K wp M tgt lv rest) (kf : ¬ x = 0 → V K wp M (pc + 3) lv rest) : V K wp M pc lv (.int x :: rest) := fun H locs ls hw hS hl => lv_if_eq h0.1 h0.2 hdg ht (fun h => kt h H locs ls hw hS hl) (fun h => kf h H locs ls hw hS hl)
theorem v_icmp_eq {σ : Type} {K : Cf} {wp : σ → Heap → Prop} {M : σ} {cc : ByteArray} {pc : Nat} {lv : List (Nat × Value)} {rest : List Value} (h0 : C0 K cc) {x y : Int32} {off : Int} {tgt : Nat} (hdg : decode cc pc = .ok (.if_icmp .eq off, 3)) (ht : (pc : Int) + off = (tgt : Int)) (kt : x = y → V K wp M tgt lv rest) (kf : ¬ x = y → V K wp M (pc + 3) lv rest) : V K wp M pc lv (.int y :: .int x :: rest) := fun H locs ls hw hS hl => lv_icmp_eq h0.1 h0.2 hdg ht (fun h => kt h H locs ls hw hS hl) (fun h => kf h H locs ls hw hS hl)
theorem v_if_ne {σ : Type} {K : Cf} {wp : σ → Heap → Prop} {M : σ} {cc : ByteArray} {pc : Nat} {lv : List (Nat × Value)} {rest : List Value} (h0 : C0 K cc) {x : Int32} {off : Int} {tgt : Nat} (hdg : decode cc pc = .ok (.ifCond .ne off, 3)) (ht : (pc : Int) + off = (tgt : Int)) (kt : ¬ x = 0 → V K wp M tgt lv rest) (kf : x = 0 → V K wp M (pc + 3) lv rest) : V K wp M pc lv (.int x :: rest) := fun H locs ls hw hS hl => lv_if_ne h0.1 h0.2 hdg ht (fun h => kt h H locs ls hw hS hl) (fun h => kf h H locs ls hw hS hl)
theorem v_icmp_ne {σ : Type} {K : Cf} {wp : σ → Heap → Prop} {M : σ} {cc : ByteArray} {pc : Nat} {lv : List (Nat × Value)} {rest : List Value} (h0 : C0 K cc) {x y : Int32} {off : Int} {tgt : Nat} (hdg : decode cc pc = .ok (.if_icmp .ne off, 3)) (ht : (pc : Int) + off = (tgt : Int)) (kt : ¬ x = y → V K wp M tgt lv rest) (kf : x = y → V K wp M (pc + 3) lv rest) : V K wp M pc lv (.int y :: .int x :: rest) := fun H locs ls hw hS hl => lv_icmp_ne h0.1 h0.2 hdg ht (fun h => kt h H locs ls hw hS hl) (fun h => kf h H locs ls hw hS hl)
theorem v_if_lt {σ : Type} {K : Cf} {wp : σ → Heap → Prop} {M : σ} {cc : ByteArray} {pc : Nat} {lv : List (Nat × Value)} {rest : List Value} (h0 : C0 K cc) {x : Int32} {off : Int} {tgt : Nat} (hdg : decode cc pc = .ok (.ifCond .lt off, 3)) (ht : (pc : Int) + off = (tgt : Int)) (kt : x < 0 → V K wp M tgt lv rest) (kf : ¬ x < 0 → V K wp M (pc + 3) lv rest) : V K wp M pc lv (.int x :: rest) := fun H locs ls hw hS hl => lv_if_lt h0.1 h0.2 hdg ht (fun h => kt h H locs ls hw hS hl) (fun h => kf h H locs ls hw hS hl)
theorem v_icmp_lt {σ : Type} {K : Cf} {wp : σ → Heap → Prop} {M : σ} {cc : ByteArray} {pc : Nat} {lv : List (Nat × Value)} {rest : List Value} (h0 : C0 K cc) {x y : Int32} {off : Int} {tgt : Nat} (hdg : decode cc pc = .ok (.if_icmp .lt off, 3)) (ht : (pc : Int) + off = (tgt : Int)) (kt : x < y → V K wp M tgt lv rest) (kf : ¬ x < y → V K wp M (pc + 3) lv rest) : V K wp M pc lv (.int y :: .int x :: rest) := fun H locs ls hw hS hl => lv_icmp_lt h0.1 h0.2 hdg ht (fun h => kt h H locs ls hw hS hl) (fun h => kf h H locs ls hw hS hl)
theorem v_if_ge {σ : Type} {K : Cf} {wp : σ → Heap → Prop} {M : σ} {cc : ByteArray} {pc : Nat} {lv : List (Nat × Value)} {rest : List Value} (h0 : C0 K cc) {x : Int32} {off : Int} {tgt : Nat} (hdg : decode cc pc = .ok (.ifCond .ge off, 3)) (ht : (pc : Int) + off = (tgt : Int)) (kt : 0 ≤ x → V K wp M tgt lv rest) (kf : ¬ 0 ≤ x → V K wp M (pc + 3) lv rest) : V K wp M pc lv (.int x :: rest) := fun H locs ls hw hS hl => lv_if_ge h0.1 h0.2 hdg ht (fun h => kt h H locs ls hw hS hl) (fun h => kf h H locs ls hw hS hl)
theorem v_icmp_ge {σ : Type} {K : Cf} {wp : σ → Heap → Prop} {M : σ} {cc : ByteArray} {pc : Nat} {lv : List (Nat × Value)} {rest : List Value} (h0 : C0 K cc) {x y : Int32} {off : Int} {tgt : Nat} (hdg : decode cc pc = .ok (.if_icmp .ge off, 3)) (ht : (pc : Int) + off = (tgt : Int)) (kt : y ≤ x → V K wp M tgt lv rest) (kf : ¬ y ≤ x → V K wp M (pc + 3) lv rest) : V K wp M pc lv (.int y :: .int x :: rest) := fun H locs ls hw hS hl => lv_icmp_ge h0.1 h0.2 hdg ht (fun h => kt h H locs ls hw hS hl) (fun h => kf h H locs ls hw hS hl)
theorem v_if_gt {σ : Type} {K : Cf} {wp : σ → Heap → Prop} {M : σ} {cc : ByteArray} {pc : Nat} {lv : List (Nat × Value)} {rest : List Value} (h0 : C0 K cc) {x : Int32} {off : Int} {tgt : Nat} (hdg : decode cc pc = .ok (.ifCond .gt off, 3)) (ht : (pc : Int) + off = (tgt : Int)) (kt : 0 < x → V K wp M tgt lv rest) (kf : ¬ 0 < x → V K wp M (pc + 3) lv rest) : V K wp M pc lv (.int x :: rest) := fun H locs ls hw hS hl => lv_if_gt h0.1 h0.2 hdg ht (fun h => kt h H locs ls hw hS hl) (fun h => kf h H locs ls hw hS hl)
theorem v_icmp_gt {σ : Type} {K : Cf} {wp : σ → Heap → Prop} {M : σ} {cc : ByteArray} {pc : Nat} {lv : List (Nat × Value)} {rest : List Value} (h0 : C0 K cc) {x y : Int32} {off : Int} {tgt : Nat} (hdg : decode cc pc = .ok (.if_icmp .gt off, 3)) (ht : (pc : Int) + off = (tgt : Int)) (kt : y < x → V K wp M tgt lv rest) (kf : ¬ y < x → V K wp M (pc + 3) lv rest) : V K wp M pc lv (.int y :: .int x :: rest) := fun H locs ls hw hS hl => lv_icmp_gt h0.1 h0.2 hdg ht (fun h => kt h H locs ls hw hS hl) (fun h => kf h H locs ls hw hS hl)
theorem v_if_le {σ : Type} {K : Cf} {wp : σ → Heap → Prop} {M : σ} {cc : ByteArray} {pc : Nat} {lv : List (Nat × Value)} {rest : List Value} (h0 : C0 K cc) {x : Int32} {off : Int} {tgt : Nat} (hdg : decode cc pc = .ok (.ifCond .le off, 3)) (ht : (pc : Int) + off = (tgt : Int)) (kt : x ≤ 0 → V K wp M tgt lv rest) (kf : ¬ x ≤ 0 → V K wp M (pc + 3) lv rest) : V K wp M pc lv (.int x :: rest) := fun H locs ls hw hS hl => lv_if_le h0.1 h0.2 hdg ht (fun h => kt h H locs ls hw hS hl) (fun h => kf h H locs ls hw hS hl)
theorem v_icmp_le {σ : Type} {K : Cf} {wp : σ → Heap → Prop} {M : σ} {cc : ByteArray} {pc : Nat} {lv : List (Nat × Value)} {rest : List Value} (h0 : C0 K cc) {x y : Int32} {off : Int} {tgt : Nat} (hdg : decode cc pc = .ok (.if_icmp .le off, 3)) (ht : (pc : Int) + off = (tgt : Int)) (kt : x ≤ y → V K wp M tgt lv rest) (kf : ¬ x ≤ y → V K wp M (pc + 3) lv rest) : V K wp M pc lv (.int y :: .int x :: rest) := fun H locs ls hw hS hl => lv_icmp_le h0.1 h0.2 hdg ht (fun h => kt h H locs ls hw hS hl) (fun h => kf h H locs ls hw hS hl)
theorem v_goto {σ : Type} {K : Cf} {wp : σ → Heap → Prop} {M : σ} {cc : ByteArray} {pc : Nat} {lv : List (Nat × Value)} {rest : List Value} (h0 : C0 K cc) {off : Int} {tgt : Nat} (hdg : decode cc pc = .ok (.goto off, 3)) (ht : (pc : Int) + off = (tgt : Int)) (k : V K wp M tgt lv rest) : V K wp M pc lv rest := fun H locs ls hw hS hl => lv_goto h0.1 h0.2 hdg ht (k H locs ls hw hS hl)
theorem v_ifnonnull {σ : Type} {K : Cf} {wp : σ → Heap → Prop} {M : σ} {cc : ByteArray} {pc : Nat} {lv : List (Nat × Value)} {rest : List Value} (h0 : C0 K cc) {x : Nat} {off : Int} {tgt : Nat} (hdg : decode cc pc = .ok (.ifnonnull off, 3)) (ht : (pc : Int) + off = (tgt : Int)) (k : V K wp M tgt lv rest) : V K wp M pc lv (.ref x :: rest) := fun H locs ls hw hS hl => lv_ifnonnull h0.1 h0.2 hdg ht (k H locs ls hw hS hl)
theorem v_ifnull {σ : Type} {K : Cf} {wp : σ → Heap → Prop} {M : σ} {cc : ByteArray} {pc : Nat} {lv : List (Nat × Value)} {rest : List Value} (h0 : C0 K cc) {x : Nat} {off : Int} (hdg : decode cc pc = .ok (.ifnull off, 3)) (k : V K wp M (pc + 3) lv rest) : V K wp M pc lv (.ref x :: rest) := fun H locs ls hw hS hl => lv_ifnull h0.1 h0.2 hdg (k H locs ls hw hS hl)
theorem v_ifnullN {σ : Type} {K : Cf} {wp : σ → Heap → Prop} {M : σ} {cc : ByteArray} {pc : Nat} {lv : List (Nat × Value)} {rest : List Value} (h0 : C0 K cc) {off : Int} {tgt : Nat} (hdg : decode cc pc = .ok (.ifnull off, 3)) (ht : (pc : Int) + off = (tgt : Int)) (k : V K wp M tgt lv rest) : V K wp M pc lv (.null :: rest) := fun H locs ls hw hS hl => lv_ifnullN h0.1 h0.2 hdg ht (k H locs ls hw hS hl)
theorem v_ifnonnullN {σ : Type} {K : Cf} {wp : σ → Heap → Prop} {M : σ} {cc : ByteArray} {pc : Nat} {lv : List (Nat × Value)} {rest : List Value} (h0 : C0 K cc) {off : Int} (hdg : decode cc pc = .ok (.ifnonnull off, 3)) (k : V K wp M (pc + 3) lv rest) : V K wp M pc lv (.null :: rest) := fun H locs ls hw hS hl => lv_ifnonnullN h0.1 h0.2 hdg (k H locs ls hw hS hl)
theorem v_lookup {σ : Type} {K : Cf} {wp : σ → Heap → Prop} {M : σ} {cc : ByteArray} {pc : Nat} {lv : List (Nat × Value)} {rest : List Value} (h0 : C0 K cc) {dflt : Int} {ps : Array (Int × Int)} {len : Nat} {x : Int32} {off : Int} {tgt : Nat} (hdg : decode cc pc = .ok (.lookupswitch dflt ps, len)) (hp : (ps.toList.zip (ps.toList.drop 1)).all (fun (a, next) => a.1 < next.1) = true) (ho : Op.lookupswitch.offset ps.toList dflt x.toInt = off) (ht : (pc : Int) + off = (tgt : Int)) (k : V K wp M tgt lv rest) : V K wp M pc lv (.int x :: rest) := fun H locs ls hw hS hl => lv_lookup h0.1 h0.2 hdg hp ho ht (k H locs ls hw hS hl)
theorem v_tableOut {σ : Type} {K : Cf} {wp : σ → Heap → Prop} {M : σ} {cc : ByteArray} {pc : Nat} {lv : List (Nat × Value)} {rest : List Value} (h0 : C0 K cc) {dflt lo hi : Int} {offs : Array Int} {len : Nat} {x : Int32} {tgt : Nat} (hdg : decode cc pc = .ok (.tableswitch dflt lo hi offs, len)) (h : x.toInt < lo ∨ hi < x.toInt) (ht : (pc : Int) + dflt = (tgt : Int)) (k : V K wp M tgt lv rest) : V K wp M pc lv (.int x :: rest) := fun H locs ls hw hS hl => lv_tableOut h0.1 h0.2 hdg h ht (k H locs ls hw hS hl)
theorem v_tableIn {σ : Type} {K : Cf} {wp : σ → Heap → Prop} {M : σ} {cc : ByteArray} {pc : Nat} {lv : List (Nat × Value)} {rest : List Value} (h0 : C0 K cc) {dflt lo hi : Int} {offs : Array Int} {len : Nat} {x : Int32} {off : Int} {tgt : Nat} (hdg : decode cc pc = .ok (.tableswitch dflt lo hi offs, len)) (h1 : ¬ x.toInt < lo) (h2 : ¬ hi < x.toInt) (h3 : offs[(x.toInt - lo).toNat]? = some off) (ht : (pc : Int) + off = (tgt : Int)) (k : V K wp M tgt lv rest) : V K wp M pc lv (.int x :: rest) := fun H locs ls hw hS hl => lv_tableIn h0.1 h0.2 hdg h1 h2 h3 ht (k H locs ls hw hS hl)
theorem v_eq {σ : Type} {K : Cf} {wp : σ → Heap → Prop} {M M' : σ} {pc pc' : Nat} {lv lv' : List (Nat × Value)} {st st' : List Value} (k : V K wp M' pc' lv' st') (hM : M = M' := by rfl) (hp : pc = pc' := by rfl) (hl : lv = lv' := by rfl) (hs : st = st' := by rfl) : V K wp M pc lv st := by subst hM; subst hp; subst hl; subst hs; exact k
theorem v_int {σ : Type} {K : Cf} {wp : σ → Heap → Prop} {M : σ} {pc : Nat} {lv : List (Nat × Value)} {rest : List Value} {x : Int32} (y : Int32) (h : x = y) (k : V K wp M pc lv (.int y :: rest)) : V K wp M pc lv (.int x :: rest) := by subst h; exact k
theorem v_top {σ : Type} {K : Cf} {wp : σ → Heap → Prop} {M : σ} {pc : Nat} {lv : List (Nat × Value)} {rest : List Value} {x : Value} (y : Value) (h : x = y) (k : V K wp M pc lv (y :: rest)) : V K wp M pc lv (x :: rest) := by subst h; exact k
theorem v_sub {σ : Type} {K : Cf} {wp : σ → Heap → Prop} {M : σ} {pc : Nat} {lv lv' : List (Nat × Value)} {st : List Value} (js : List Nat) (h : lv_pick lv js = lv') (k : V K wp M pc lv' st) : V K wp M pc lv st := fun H locs ls hw hS hl => k H locs ls hw hS (lv_sub hl js h)
end
section
/-! SIDES: a world of a fixed number of cells, each by a row of Int32 -/
abbrev Me : Type := Nat → Nat → Int32
def upR (M : Me) (i : Nat) (r : Nat → Int32) : Me := fun a => if a = i then r else M a
def up2 (M : Me) (i k : Nat) (v : Int32) : Me := upR M i (upd (M i) k v)
theorem upR_s (M : Me) (i : Nat) (r : Nat → Int32) : upR M i r i = r := if_pos rfl
theorem upR_n (M : Me) {i j : Nat} (r : Nat → Int32) (h : j ≠ i) : upR M i r j = M j := if_neg h
theorem up2_s (M : Me) (i k : Nat) (v : Int32) : up2 M i k v i k = v := by simp [up2, upR, upd]
theorem up2_n (M : Me) {i k a b : Nat} (v : Int32) (h : ¬ (a = i ∧ b = k)) : up2 M i k v a b = M a b := by
  unfold up2 upR upd
  by_cases ha : a = i
  · subst ha
    rw [if_pos rfl, if_neg (fun q => h ⟨rfl, q⟩)]
  · rw [if_neg ha]
theorem up2_if (M : Me) (i k : Nat) (v : Int32) (a b : Nat) : up2 M i k v a b = if a = i ∧ b = k then v else M a b := by
  by_cases h : a = i ∧ b = k
  · rw [if_pos h, h.1, h.2, up2_s]
  · rw [if_neg h, up2_n M v h]
abbrev Sd : Type := va_G × List vw_C × List (ClassId × FieldType) × Nat × (Nat → Nat) × (Nat → (Nat → Int32) → va_E) × List Cond
abbrev sD (S : Sd) : va_G := S.1
abbrev sC (S : Sd) : List vw_C := S.2.1
abbrev sT (S : Sd) : List (ClassId × FieldType) := S.2.2.1
abbrev sN (S : Sd) : Nat := S.2.2.2.1
abbrev sa (S : Sd) : Nat → Nat := S.2.2.2.2.1
abbrev sE (S : Sd) : Nat → (Nat → Int32) → va_E := S.2.2.2.2.2.1
abbrev sW (S : Sd) : List Cond := S.2.2.2.2.2.2
def wl (S : Sd) (M : Me) : va_W := (List.range (sN S)).map (fun i => (sa S i, sE S i (M i)))
def wp (S : Sd) (M : Me) (H : Heap) : Prop := va_P (sD S) (sC S) (wl S M) H
def wS (S : Sd) (M : Me) (U : State) : Prop := wp S M U.heap ∧ va_K (sD S) (sC S) (sT S) U ∧ ∀ w ∈ sW S, va_Nw w U
def sA (S : Sd) : Nat → Prop := fun q => ∃ i, i < sN S ∧ q = sa S i
def sI (S : Sd) : Prop := ∀ i j, i < sN S → j < sN S → sa S i = sa S j → i = j
theorem wl_len (S : Sd) (M : Me) : (wl S M).length = sN S := by simp [wl]
theorem wl_at (S : Sd) (M : Me) {i : Nat} (h : i < sN S) : (wl S M)[i]? = some (sa S i, sE S i (M i)) := by
  simp only [wl, List.getElem?_map, List.getElem?_range h, Option.map_some]
theorem wl_of {S : Sd} {M : Me} {i : Nat} {q : Nat × va_E} (h : (wl S M)[i]? = some q) : i < sN S ∧ q = (sa S i, sE S i (M i)) := by
  have hl : i < (wl S M).length := (List.getElem?_eq_some_iff.mp h).1
  rw [wl_len] at hl
  rw [wl_at S M hl] at h
  exact ⟨hl, (Option.some.inj h).symm⟩
theorem wl_set (S : Sd) (M : Me) {i : Nat} (h : i < sN S) (r : Nat → Int32) : (wl S M).set i (sa S i, sE S i r) = wl S (upR M i r) := by
  apply List.ext_getElem?
  intro j
  by_cases hj : j = i
  · subst hj
    rw [List.getElem?_set_self (by rw [wl_len]; exact h), wl_at S _ h, upR_s]
  · rw [List.getElem?_set_ne (Ne.symm hj)]
    by_cases hN : j < sN S
    · rw [wl_at S _ hN, wl_at S _ hN, upR_n M r hj]
    · rw [List.getElem?_eq_none (by rw [wl_len]; omega), List.getElem?_eq_none (by rw [wl_len]; omega)]
theorem wl_D {S : Sd} (M : Me) (hI : sI S) : va_D (sA S) (wl S M) := by
  refine ⟨fun i j p q hi hj hpq => ?_, fun k q hk => ?_⟩
  · obtain ⟨h1, rfl⟩ := wl_of hi
    obtain ⟨h2, rfl⟩ := wl_of hj
    exact hI i j h1 h2 hpq
  · obtain ⟨h1, rfl⟩ := wl_of hk
    exact ⟨k, h1, rfl⟩
/-- a method's end: an answer and a new memory; nothing else has changed -/
def QC {σ : Type} (ws : σ → State → Prop) (A : Nat → Prop) (post : Option Value → σ → Prop) : Array Value → State → Outcome → State → Prop := fun _ st oc t => (∃ (r : Option Value) (M : σ), oc = .returned r ∧ post r M ∧ ws M t) ∧ va_F A st t
abbrev rm (h : Nat) : Room := { frames := h, cells := 0, slots := 0, locals := 64 * h }
def Ct {σ : Type} (l : Launch) (y : MethodName) (ts : List Cond) (h : Nat) (ws : σ → State → Prop) (A : Nat → Prop) (av : List Value) (M : σ) (post : Option Value → σ → Prop) : Prop :=
  Met l y ts (rm h) (va_Pc av (ws M)) (QC ws A post) 0 0 A
/-- the words that hold everywhere, and stay -/
def wG : List Cond := lw_tbl.filter goodWord
theorem wG_good {w : Cond} (h : w ∈ wG) : (w.onTables && w.keeps) = true ∨ ∃ ty, w = .arrayClass ty := good_of_word (List.mem_filter.mp h).2
theorem wG_in {w : Cond} (h : w ∈ lw_tbl) (hg : goodWord w = true) : w ∈ wG := List.mem_filter.mpr ⟨h, hg⟩
theorem wG_tb {w : Cond} (i : Nat) (h : tables_1[i]? = some w) (hg : goodWord w = true) : w ∈ wG := wG_in (List.mem_append_right _ (List.mem_of_getElem? h)) hg
theorem wG_goodIn {y : MethodName} {cc : ByteArray} {maxL : Nat} {ret : Option FieldType} (h : Cond.code y cc maxL ret ∈ wG) : GoodIn wG (.code y cc maxL ret :: wG) := by
  intro w hw
  rcases List.mem_cons.mp hw with rfl | hw
  · exact ⟨h, wG_good h⟩
  · exact ⟨hw, wG_good hw⟩
/-- where a method of a side stands -/
def Cx (S : Sd) (K : Cf) (own : String) (h : Nat) : Prop :=
  (ks K).vm.findClass own = some (km K).cls ∧ (∀ w ∈ wG, w.before (ka K) (ks K) = true) ∧ va_K (sD S) (sC S) (sT S) (ks K) ∧ (∀ w ∈ sW S, va_Nw w (ks K)) ∧ kA K = sA S ∧ sI S ∧ (kc K).maxLocals = kn K ∧ kR K = rm h ∧ kcs K = 0 ∧ ksl K = 0
theorem Cx.own {S : Sd} {K : Cf} {own : String} {h : Nat} (c : Cx S K own h) : (ks K).vm.findClass own = some (km K).cls := c.1
theorem Cx.ts {S : Sd} {K : Cf} {own : String} {h : Nat} (c : Cx S K own h) : ∀ w ∈ wG, w.before (ka K) (ks K) = true := c.2.1
theorem Cx.k {S : Sd} {K : Cf} {own : String} {h : Nat} (c : Cx S K own h) : va_K (sD S) (sC S) (sT S) (ks K) := c.2.2.1
theorem Cx.nw {S : Sd} {K : Cf} {own : String} {h : Nat} (c : Cx S K own h) : ∀ w ∈ sW S, va_Nw w (ks K) := c.2.2.2.1
theorem Cx.d {S : Sd} {K : Cf} {own : String} {h : Nat} (c : Cx S K own h) (M : Me) : va_D (kA K) (wl S M) := by
  rw [c.2.2.2.2.1]
  exact wl_D M c.2.2.2.2.2.1
theorem Cx.ml {S : Sd} {K : Cf} {own : String} {h : Nat} (c : Cx S K own h) : (kc K).maxLocals = kn K := c.2.2.2.2.2.2.1
theorem Cx.r {S : Sd} {K : Cf} {own : String} {h : Nat} (c : Cx S K own h) : kR K = rm h := c.2.2.2.2.2.2.2.1
section HR
variable {S : Sd} {K : Cf} {own : String} {h : Nat} {M : Me} {cc : ByteArray} {pc : Nat} {lv : List (Nat × Value)} {rest : List Value}
theorem v_get (h0 : C0 K cc) (hC : Cx S K own h) {C : String} {T : u_T} {N ci index : Nat} (hin : ∀ w ∈ u_ws C T N, w ∈ wG) (i : Nat) (hi : i < sN S) {fs : List Value} (he : sE S i (M i) = .inr (ci, fs)) (hc : (sC S)[ci]? = some (C, T, N)) (k : Nat) (hk : k < N) (hlink : Cond.fieldLink own index (T k).1 (T k).2.1 (T k).2.2.1 ∈ wG) {v : Value} (hv : fs[k]? = some v) (hdg : decode cc pc = .ok (.getfield index, 3))
    (kk : V K (wp S) M (pc + 3) lv (v :: rest)) : V K (wp S) M pc lv (.ref (sa S i) :: rest) := fun H locs ls hw hS hl =>
  va_get h0.1 h0.2 hC.ts hin hC.own hC.k hw i (by rw [wl_at S M hi, he]) hc k hk (hC.ts _ hlink) (fun _ h9 => h9) hv hdg (kk H locs ls hw hS hl)
theorem v_getN (h0 : C0 K cc) (hC : Cx S K own h) {C host : String} {T : u_T} {N ci index : Nat} (hin : ∀ w ∈ u_ws C T N, w ∈ wG) (i : Nat) (hi : i < sN S) {fs : List Value} (he : sE S i (M i) = .inr (ci, fs)) (hc : (sC S)[ci]? = some (C, T, N)) (k : Nat) (hk : k < N) (hlink : Cond.fieldLinkNest own index (T k).1 (T k).2.1 (T k).2.2.1 host ∈ sW S) {v : Value} (hv : fs[k]? = some v) (hdg : decode cc pc = .ok (.getfield index, 3))
    (kk : V K (wp S) M (pc + 3) lv (v :: rest)) : V K (wp S) M pc lv (.ref (sa S i) :: rest) := fun H locs ls hw hS hl =>
  va_getN h0.1 h0.2 hC.ts hin hC.own hC.k hw i (by rw [wl_at S M hi, he]) hc k hk (va_Nw.use rfl (hC.nw _ hlink)) (fun _ h9 => h9) hv hdg (kk H locs ls hw hS hl)
theorem wp_set {i : Nat} (hi : i < sN S) {r : Nat → Int32} {e : va_E} (hr : sE S i r = e) {H : Heap} (hP : va_P (sD S) (sC S) ((wl S M).set i (sa S i, e)) H) : wp S (upR M i r) H := by
  unfold wp
  rw [← wl_set S M hi r, hr]
  exact hP
theorem v_put (h0 : C0 K cc) (hC : Cx S K own h) {C : String} {T : u_T} {N ci index : Nat} (hin : ∀ w ∈ u_ws C T N, w ∈ wG) (ty0 : Nat → FieldType) (hty : ∀ k, k < N → parseFieldDescriptor (T k).2.2.1 = some (ty0 k)) (hnm : ∀ a, a < N → ∀ b, b < N → a ≠ b → (T a).2.1 ≠ (T b).2.1) (i : Nat) (hi : i < sN S) {fs : List Value} (he : sE S i (M i) = .inr (ci, fs)) (hc : (sC S)[ci]? = some (C, T, N)) (k : Nat) (hk : k < N) (hlink : Cond.fieldLink own index (T k).1 (T k).2.1 (T k).2.2.1 ∈ wG) (hfin : (T k).2.2.2 = false) {v : Value} (hn : narrow (ty0 k) v = v) (hfit : fits (ty0 k) v = true) (hl0 : k < fs.length) (r : Nat → Int32) (hr : sE S i r = .inr (ci, fs.set k v)) (hdg : decode cc pc = .ok (.putfield index, 3))
    (kk : V K (wp S) (upR M i r) (pc + 3) lv rest) : V K (wp S) M pc lv (v :: .ref (sa S i) :: rest) := fun H locs ls hw hS hl =>
  va_put h0.1 h0.2 hC.ts hin ty0 hty hnm hC.own hC.k hw (hC.d M) hS i (by rw [wl_at S M hi, he]) hc k hk (hC.ts _ hlink) (fun _ h9 => h9) hfin (hty k hk) hn hfit hl0 hdg (fun H1 locs1 hP1 _ hS1 => kk H1 locs1 ls (wp_set hi hr hP1) hS1 hl)
theorem v_putN (h0 : C0 K cc) (hC : Cx S K own h) {C host : String} {T : u_T} {N ci index : Nat} (hin : ∀ w ∈ u_ws C T N, w ∈ wG) (ty0 : Nat → FieldType) (hty : ∀ k, k < N → parseFieldDescriptor (T k).2.2.1 = some (ty0 k)) (hnm : ∀ a, a < N → ∀ b, b < N → a ≠ b → (T a).2.1 ≠ (T b).2.1) (i : Nat) (hi : i < sN S) {fs : List Value} (he : sE S i (M i) = .inr (ci, fs)) (hc : (sC S)[ci]? = some (C, T, N)) (k : Nat) (hk : k < N) (hlink : Cond.fieldLinkNest own index (T k).1 (T k).2.1 (T k).2.2.1 host ∈ sW S) (hfin : (T k).2.2.2 = false) {v : Value} (hn : narrow (ty0 k) v = v) (hfit : fits (ty0 k) v = true) (hl0 : k < fs.length) (r : Nat → Int32) (hr : sE S i r = .inr (ci, fs.set k v)) (hdg : decode cc pc = .ok (.putfield index, 3))
    (kk : V K (wp S) (upR M i r) (pc + 3) lv rest) : V K (wp S) M pc lv (v :: .ref (sa S i) :: rest) := fun H locs ls hw hS hl =>
  va_putN h0.1 h0.2 hC.ts hin ty0 hty hnm hC.own hC.k hw (hC.d M) hS i (by rw [wl_at S M hi, he]) hc k hk (va_Nw.use rfl (hC.nw _ hlink)) (fun _ h9 => h9) hfin (hty k hk) hn hfit hl0 hdg (fun H1 locs1 hP1 _ hS1 => kk H1 locs1 ls (wp_set hi hr hP1) hS1 hl)
theorem v_iald (h0 : C0 K cc) (hC : Cx S K own h) (i : Nat) (hi : i < sN S) {cA : ClassId} {n : Nat} (he : sE S i (M i) = .inl (cA, n, .inl (M i))) (t0 : Nat) (ht : (sT S)[t0]? = some (cA, .int)) {x : Int32} (j : Nat) (hx : x = nI j) (hj : j < n) (hn : n < 2 ^ 31) (hdg : decode cc pc = .ok (.iaload, 1))
    (kk : V K (wp S) M (pc + 1) lv (.int (M i j) :: rest)) : V K (wp S) M pc lv (.int x :: .ref (sa S i) :: rest) := by
  subst hx
  intro H locs ls hw hS hl
  refine va_iald h0.1 h0.2 hC.k hw i t0 (by rw [wl_at S M hi, he]) ht (vp_in_nI hj hn) hdg ?_
  rw [nI_clamp (by omega)]
  exact kk H locs ls hw hS hl
theorem v_cald (h0 : C0 K cc) (hC : Cx S K own h) (i : Nat) (hi : i < sN S) {cA : ClassId} {n : Nat} (he : sE S i (M i) = .inl (cA, n, .inl (M i))) (t0 : Nat) (ht : (sT S)[t0]? = some (cA, .char)) {x : Int32} (j : Nat) (hx : x = nI j) (hj : j < n) (hn : n < 2 ^ 31) (hdg : decode cc pc = .ok (.caload, 1))
    (kk : V K (wp S) M (pc + 1) lv (.int (M i j) :: rest)) : V K (wp S) M pc lv (.int x :: .ref (sa S i) :: rest) := by
  subst hx
  intro H locs ls hw hS hl
  refine va_cald h0.1 h0.2 hC.k hw i t0 (by rw [wl_at S M hi, he]) ht (vp_in_nI hj hn) hdg ?_
  rw [nI_clamp (by omega)]
  exact kk H locs ls hw hS hl
theorem v_zald (h0 : C0 K cc) (hC : Cx S K own h) (i : Nat) (hi : i < sN S) {cA : ClassId} {n : Nat} (he : sE S i (M i) = .inl (cA, n, .inl (M i))) (t0 : Nat) (ht : (sT S)[t0]? = some (cA, .boolean)) {x : Int32} (j : Nat) (hx : x = nI j) (hj : j < n) (hn : n < 2 ^ 31) (hdg : decode cc pc = .ok (.baload, 1))
    (kk : V K (wp S) M (pc + 1) lv (.int (M i j) :: rest)) : V K (wp S) M pc lv (.int x :: .ref (sa S i) :: rest) := by
  subst hx
  intro H locs ls hw hS hl
  refine va_zald h0.1 h0.2 hC.k hw i t0 (by rw [wl_at S M hi, he]) ht (vp_in_nI hj hn) hdg ?_
  rw [nI_clamp (by omega)]
  exact kk H locs ls hw hS hl
theorem v_iast (h0 : C0 K cc) (hC : Cx S K own h) (i : Nat) (hi : i < sN S) {cA : ClassId} {n : Nat} (he : ∀ r, sE S i r = .inl (cA, n, .inl r)) (t0 : Nat) (ht : (sT S)[t0]? = some (cA, .int)) {x y z : Int32} (j : Nat) (hy : y = nI j) (hz : x = z) (hj : j < n) (hn : n < 2 ^ 31) (hdg : decode cc pc = .ok (.iastore, 1))
    (kk : V K (wp S) (up2 M i j z) (pc + 1) lv rest) : V K (wp S) M pc lv (.int x :: .int y :: .ref (sa S i) :: rest) := by
  subst hy
  subst hz
  intro H locs ls hw hS hl
  refine va_iast h0.1 h0.2 hC.k hw (hC.d M) hS i t0 (by rw [wl_at S M hi, he]) ht (vp_in_nI hj hn) hdg (fun H1 locs1 hP1 _ hS1 => ?_)
  rw [nI_clamp (by omega)] at hP1
  exact kk H1 locs1 ls (wp_set hi (he _) hP1) hS1 hl
theorem v_cast (h0 : C0 K cc) (hC : Cx S K own h) (i : Nat) (hi : i < sN S) {cA : ClassId} {n : Nat} (he : ∀ r, sE S i r = .inl (cA, n, .inl r)) (t0 : Nat) (ht : (sT S)[t0]? = some (cA, .char)) {x y z : Int32} (j : Nat) (hy : y = nI j) (hz : (vp_nar .char x) = z) (hj : j < n) (hn : n < 2 ^ 31) (hdg : decode cc pc = .ok (.castore, 1))
    (kk : V K (wp S) (up2 M i j z) (pc + 1) lv rest) : V K (wp S) M pc lv (.int x :: .int y :: .ref (sa S i) :: rest) := by
  subst hy
  subst hz
  intro H locs ls hw hS hl
  refine va_cast h0.1 h0.2 hC.k hw (hC.d M) hS i t0 (by rw [wl_at S M hi, he]) ht (vp_in_nI hj hn) hdg (fun H1 locs1 hP1 _ hS1 => ?_)
  rw [nI_clamp (by omega)] at hP1
  exact kk H1 locs1 ls (wp_set hi (he _) hP1) hS1 hl
theorem v_zast (h0 : C0 K cc) (hC : Cx S K own h) (i : Nat) (hi : i < sN S) {cA : ClassId} {n : Nat} (he : ∀ r, sE S i r = .inl (cA, n, .inl r)) (t0 : Nat) (ht : (sT S)[t0]? = some (cA, .boolean)) {x y z : Int32} (j : Nat) (hy : y = nI j) (hz : (vp_nar .boolean x) = z) (hj : j < n) (hn : n < 2 ^ 31) (hdg : decode cc pc = .ok (.bastore, 1))
    (kk : V K (wp S) (up2 M i j z) (pc + 1) lv rest) : V K (wp S) M pc lv (.int x :: .int y :: .ref (sa S i) :: rest) := by
  subst hy
  subst hz
  intro H locs ls hw hS hl
  refine va_zast h0.1 h0.2 hC.k hw (hC.d M) hS i t0 (by rw [wl_at S M hi, he]) ht (vp_in_nI hj hn) hdg (fun H1 locs1 hP1 _ hS1 => ?_)
  rw [nI_clamp (by omega)] at hP1
  exact kk H1 locs1 ls (wp_set hi (he _) hP1) hS1 hl
theorem v_ald (h0 : C0 K cc) (hC : Cx S K own h) (i : Nat) (hi : i < sN S) {cA : ClassId} {n : Nat} {f : Nat → Option Nat} (he : sE S i (M i) = .inl (cA, n, .inr (.inr (.inr (.inr f))))) (t0 : Nat) {C : String} (ht : (sT S)[t0]? = some (cA, .object C)) {x : Int32} (j : Nat) (hx : x = nI j) (hj : j < n) (hn : n < 2 ^ 31) {v : Value} (hv : va_rf (f j) = v) (hdg : decode cc pc = .ok (.aaload, 1))
    (kk : V K (wp S) M (pc + 1) lv (v :: rest)) : V K (wp S) M pc lv (.int x :: .ref (sa S i) :: rest) := by
  subst hx
  subst hv
  intro H locs ls hw hS hl
  refine va_aldq h0.1 h0.2 hC.k hw i t0 (by rw [wl_at S M hi, he]) ht (vp_in_nI hj hn) hdg ?_
  rw [nI_clamp (by omega)]
  exact kk H locs ls hw hS hl
theorem v_ast (h0 : C0 K cc) (hC : Cx S K own h) (i : Nat) (hi : i < sN S) {cA : ClassId} {n : Nat} {f : Nat → Option Nat} (he : sE S i (M i) = .inl (cA, n, .inr (.inr (.inr (.inr f))))) (t0 : Nat) {q : vw_C} (ht : (sT S)[t0]? = some (cA, .object q.1)) (iv : Nat) (hiv : iv < sN S) {ci : Nat} {vs : List Value} (hev : sE S iv (M iv) = .inr (ci, vs)) (hc : (sC S)[ci]? = some q) {x : Int32} (j : Nat) (hx : x = nI j) (hj : j < n) (hn : n < 2 ^ 31) (r : Nat → Int32) (hr : sE S i r = .inl (cA, n, .inr (.inr (.inr (.inr (va_up f j (some (sa S iv)))))))) (hdg : decode cc pc = .ok (.aastore, 1))
    (kk : V K (wp S) (upR M i r) (pc + 1) lv rest) : V K (wp S) M pc lv (.ref (sa S iv) :: .int x :: .ref (sa S i) :: rest) := by
  subst hx
  intro H locs ls hw hS hl
  refine va_astq h0.1 h0.2 hC.k hw (hC.d M) hS i t0 iv ci (by rw [wl_at S M hi, he]) ht (by rw [wl_at S M hiv, hev]) hc (vp_in_nI hj hn) hdg (fun H1 locs1 hP1 _ hS1 => ?_)
  rw [nI_clamp (by omega)] at hP1
  exact kk H1 locs1 ls (wp_set hi hr hP1) hS1 hl
theorem v_astN (h0 : C0 K cc) (hC : Cx S K own h) (i : Nat) (hi : i < sN S) {cA : ClassId} {n : Nat} {f : Nat → Option Nat} (he : sE S i (M i) = .inl (cA, n, .inr (.inr (.inr (.inr f))))) (t0 : Nat) {C : String} (ht : (sT S)[t0]? = some (cA, .object C)) {x : Int32} (j : Nat) (hx : x = nI j) (hj : j < n) (hn : n < 2 ^ 31) (r : Nat → Int32) (hr : sE S i r = .inl (cA, n, .inr (.inr (.inr (.inr (va_up f j none)))))) (hdg : decode cc pc = .ok (.aastore, 1))
    (kk : V K (wp S) (upR M i r) (pc + 1) lv rest) : V K (wp S) M pc lv (.null :: .int x :: .ref (sa S i) :: rest) := by
  subst hx
  intro H locs ls hw hS hl
  refine va_astqN h0.1 h0.2 hC.k hw (hC.d M) hS i t0 (by rw [wl_at S M hi, he]) ht (vp_in_nI hj hn) hdg (fun H1 locs1 hP1 _ hS1 => ?_)
  rw [nI_clamp (by omega)] at hP1
  exact kk H1 locs1 ls (wp_set hi hr hP1) hS1 hl
end HR
end
section
/-! CALLS, ANSWERS, AND A CONTRACT OUT OF A WALK -/
/-- words of nest mates stay under what a run resolves -/
def nestW : Cond → Bool
  | .fieldLinkNest .. | .methodLinkNest .. => true
  | _ => false
theorem nestW_warm {w : Cond} (hw : nestW w = true) {s U : State} (hW : s.WarmedH U.vm) (h : va_Nw w s) : va_Nw w U := by
  cases w with
  | fieldLinkNest a i b n d t => exact va_Nw.warmF hW h
  | methodLinkNest a i x t => exact va_Nw.warmM hW h
  | _ => simp [nestW] at hw
theorem nestW_tab {w : Cond} (hw : nestW w = true) : w.onTables = true := by
  cases w with
  | fieldLinkNest a i b n d t => rfl
  | methodLinkNest a i x t => rfl
  | _ => simp [nestW] at hw
/-- what a side's words must be -/
def sN0 (S : Sd) : Prop := ∀ w ∈ sW S, nestW w = true
theorem wS_blind {S : Sd} (hN : sN0 S) (M : Me) (av : List Value) : FrameBlind (va_Pc av (wS S M)) := fun a U g mk q => by
  obtain ⟨q0, qP, qK, qN⟩ := q
  exact ⟨q0, qP, va_K.moved (u := U) (U := U.calling g mk a) (Vm.Alike.refl U.vm) qK, fun w hw => va_Nw.same (u := U) (U := U.calling g mk a) (nestW_tab (hN w hw)) rfl (qN w hw)⟩
theorem wS_of {S : Sd} {K : Cf} {own : String} {h : Nat} (hC : Cx S K own h) (hN : sN0 S) {M : Me} {H : Heap} (hw : wp S M H) {U : State} (hU : U.heap = H) (hW : (ks K).WarmedH U.vm) : wS S M U :=
  ⟨by rw [hU]; exact hw, va_K.moved hW.alike hC.k, fun w h9 => nestW_warm (hN w h9) hW (hC.nw w h9)⟩
theorem q_call {p : Program} {l : Launch} {e : Env} {R : Room} {s : State} {m : MethodId} {args : Array Value} {below : List Frame} {meth : Method} {c : Code} {H : Heap} {locs : List Loc} {cells slots : Nat} {Q : State → Prop} {pc : Nat} {ls : Array Slot} {rest st0 : List Value} {a : Array Value} {A0 A1 : Nat → Prop} {H0 : Heap} {free : Addr → Prop} {σ : Type} {ws : σ → State → Prop} {post : Option Value → σ → Prop}
    (hr : va_Run p l e R s m args below meth c H locs cells slots 0 0 (F0 m pc ls st0) rest (QC ws A1 post a) free) (hS : va_S A0 H0 H locs) (hA : ∀ q, q < H.size → A1 q → A0 q) (hf : ∀ q, free q → A0 q)
    (kk : ∀ (r : Option Value) (M : σ) (t : State) (H1 : Heap) (locs1 : List Loc), t.heap = H1 → s.vm.Alike t.vm → post r M → ws M t → H.size ≤ H1.size → (∀ q : Nat, q < H.size → ¬ A1 q → H1[q]? = H[q]?) → va_S A0 H0 H1 locs1 → W p l e R s m args below meth c H1 locs1 cells slots Q (F0 m (pc + 3) ls (r.toList ++ rest))) : W p l e R s m args below meth c H locs cells slots Q (F0 m pc ls st0) := by
  intro T hT X
  obtain ⟨v, st₀, t, T', L, h0, X', hL, e1, e2, ⟨⟨r, u, hv, hp, hb⟩, hz, hk⟩, st⟩ := hr T hT X
  cases hv
  rw [h0] at hz hk
  obtain ⟨t2, a1, b1⟩ := kk v u t T'.heap (locs ++ L) e1.symm (by rw [← e2]; exact X'.warmed.alike) hp hb (by rw [e1]; exact hz) (fun q h1 h2 => by rw [e1]; exact hk q h1 h2)
    ⟨Nat.le_trans hS.1 (by rw [e1]; exact hz), fun q h1 h2 => by rw [e1, hk q (Nat.lt_of_lt_of_le h1 hS.1) (fun z => h2 (hA q (Nat.lt_of_lt_of_le h1 hS.1) z))]; exact hS.2.1 q h1 h2, fun q hq => by
      rcases List.mem_append.mp hq with h | h
      · exact hS.2.2 q h
      · exact hf _ (hL q h)⟩ T' rfl X'
  exact ⟨t2, st t2 a1, b1⟩
section CR
variable {S : Sd} {K : Cf} {own : String} {h : Nat} {M : Me} {cc : ByteArray} {pc : Nat} {lv : List (Nat × Value)} {rest st : List Value} {y : MethodName} {bytes : ByteArray} {maxL h' index n : Nat} {ret : Option FieldType} {av : List Value} {post : Option Value → Me → Prop}
/-- behind a call of a contract of the same side -/
theorem q_side (hC : Cx S K own h) {H : Heap} {locs : List Loc} {ls : Array Slot} (hS : va_S (kA K) (ks K).heap H locs) (hl : lv_has ls (kn K) lv) {a : Array Value}
    (hr : va_Run (kp K) (kl K) (ke K) (kR K) (ks K) (km K) (ka K) (kb K) (kM K) (kc K) H locs (kcs K) (ksl K) 0 0 (F0 (km K) pc ls st) rest (QC (wS S) (sA S) post a) (sA S))
    (kk : ∀ (r : Option Value) (M' : Me), post r M' → V K (wp S) M' (pc + 3) lv (r.toList ++ rest)) : kW K H locs (F0 (km K) pc ls st) := by
  have hA : kA K = sA S := hC.2.2.2.2.1
  refine q_call hr hS (fun q _ h9 => by rw [hA]; exact h9) (fun q h9 => by rw [hA]; exact h9) (fun r M' t H1 locs1 ht _ hp hB _ _ hS1 => ?_)
  exact kk r M' hp H1 locs1 ls (by rw [← ht]; exact hB.1) hS1 hl
theorem room_ok (hC : Cx S K own h) (hh : h' + 1 ≤ h) (hm : maxL ≤ 45) : (rm h').frames + 1 ≤ (kR K).frames ∧ 8 + (maxL + 11) + (rm h').locals ≤ (kR K).locals := by
  rw [hC.r]
  exact ⟨hh, by show 8 + (maxL + 11) + 64 * h' ≤ 64 * h; omega⟩
theorem room_0 (hC : Cx S K own h) : kcs K + 0 ≤ (kR K).cells ∧ ksl K + 0 ≤ (kR K).slots := by
  obtain ⟨-, -, -, -, -, -, -, hr, h1, h2⟩ := hC
  rw [hr, h1, h2]
  exact ⟨Nat.le_refl _, Nat.le_refl _⟩
theorem v_callS (h0 : C0 K cc) (hC : Cx S K own h) (hN : sN0 S) (hM : Ct (kl K) y (.code y bytes maxL ret :: wG) h' (wS S) (sA S) av M post) (hcode : Cond.code y bytes maxL ret ∈ wG) (hlk : Cond.methodLink own index y ∈ wG) (hstt : Cond.static y ∈ wG) (hini : Cond.initialized y.cls ∈ wG)
    (hd : y.cls ≠ "java/lang/invoke/MethodHandle" ∧ y.cls ≠ "java/lang/invoke/VarHandle" ∧ (parseMethodDescriptor y.desc).map (fun d => d.parameters.length) = some n) (hh : h' + 1 ≤ h) (hm : maxL ≤ 45) (hn : av.length = n) (hst : st = av.reverse ++ rest) (hW : (rest.map fun v => v.category).sum ≤ 8) (hdg : decode cc pc = .ok (.invokestatic index, 3))
    (kk : ∀ (r : Option Value) (M' : Me), post r M' → V K (wp S) M' (pc + 3) lv (r.toList ++ rest)) : V K (wp S) M pc lv st := fun H locs ls hw hS hl =>
  q_side hC hS hl (va_runS (As := av) (rest := rest) ⟨h0.1, h0.2, hC.ml, hC.own, hC.ts⟩ hM ⟨callB_of n hC.ts (wG_goodIn hcode) rfl rfl rfl (hC.ts _ hini) (hC.ts _ hlk) hd (room_ok hC hh hm), hC.ts _ hstt⟩ ⟨wS_blind hN M av, fun U hU hW9 => ⟨rfl, wS_of hC hN hw hU hW9⟩⟩ rfl hn hl.1 hst (lv_room hW) hdg (room_0 hC)) kk
theorem v_callSN (h0 : C0 K cc) (hC : Cx S K own h) (hN : sN0 S) {host : String} (hM : Ct (kl K) y (.code y bytes maxL ret :: wG) h' (wS S) (sA S) av M post) (hcode : Cond.code y bytes maxL ret ∈ wG) (hlk : Cond.methodLinkNest own index y host ∈ sW S) (hstt : Cond.static y ∈ wG) (hini : Cond.initialized y.cls ∈ wG)
    (hd : y.cls ≠ "java/lang/invoke/MethodHandle" ∧ y.cls ≠ "java/lang/invoke/VarHandle" ∧ (parseMethodDescriptor y.desc).map (fun d => d.parameters.length) = some n) (hh : h' + 1 ≤ h) (hm : maxL ≤ 45) (hn : av.length = n) (hst : st = av.reverse ++ rest) (hW : (rest.map fun v => v.category).sum ≤ 8) (hdg : decode cc pc = .ok (.invokestatic index, 3))
    (kk : ∀ (r : Option Value) (M' : Me), post r M' → V K (wp S) M' (pc + 3) lv (r.toList ++ rest)) : V K (wp S) M pc lv st := fun H locs ls hw hS hl =>
  q_side hC hS hl (va_runSN (As := av) (rest := rest) ⟨h0.1, h0.2, hC.ml, hC.own, hC.ts⟩ hM ⟨va_cnB n hC.ts (wG_goodIn hcode) rfl rfl rfl (hC.nw _ hlk) (hC.ts _ hini) hd (room_ok hC hh hm), hC.ts _ hstt, trivial⟩ ⟨wS_blind hN M av, fun U hU hW9 => ⟨rfl, wS_of hC hN hw hU hW9⟩⟩ rfl hn hl.1 hst (lv_room hW) hdg (room_0 hC)) kk
theorem v_callV (h0 : C0 K cc) (hC : Cx S K own h) (hN : sN0 S) (i : Nat) (hi : i < sN S) {ci : Nat} {fs : List Value} {q : vw_C} (he : sE S i (M i) = .inr (ci, fs)) (hq : (sC S)[ci]? = some q) (hM : Ct (kl K) y (.code y bytes maxL ret :: wG) h' (wS S) (sA S) (.ref (sa S i) :: av) M post) (hcode : Cond.code y bytes maxL ret ∈ wG) (hlk : Cond.methodLink own index y ∈ wG) (hin : Cond.instanceMethod y ∈ wG) (hse : Cond.selects q.1 y y ∈ wG) (hini : Cond.initialized y.cls ∈ wG)
    (hd : y.cls ≠ "java/lang/invoke/MethodHandle" ∧ y.cls ≠ "java/lang/invoke/VarHandle" ∧ (parseMethodDescriptor y.desc).map (fun d => d.parameters.length) = some n) (hh : h' + 1 ≤ h) (hm : maxL ≤ 45) (hn : av.length = n) (hst : st = av.reverse ++ .ref (sa S i) :: rest) (hW : (rest.map fun v => v.category).sum ≤ 8) (hdg : decode cc pc = .ok (.invokevirtual index, 3))
    (kk : ∀ (r : Option Value) (M' : Me), post r M' → V K (wp S) M' (pc + 3) lv (r.toList ++ rest)) : V K (wp S) M pc lv st := fun H locs ls hw hS hl =>
  q_side hC hS hl (va_runV (As := av) (rest := rest) (C := q.1) ⟨h0.1, h0.2, hC.ml, hC.own, hC.ts⟩ hM ⟨callB_of n hC.ts (wG_goodIn hcode) rfl rfl rfl (hC.ts _ hini) (hC.ts _ hlk) hd (room_ok hC hh hm), hC.ts _ hin, hC.ts _ hse⟩ ⟨wS_blind hN M _, va_recv hC.k hw hq (q0 := i) (by rw [wl_at S M hi, he]), fun U hU hW9 => ⟨rfl, wS_of hC hN hw hU hW9⟩⟩ rfl hn hl.1 hst (lv_room hW) hdg (room_0 hC)) kk
theorem v_callVN (h0 : C0 K cc) (hC : Cx S K own h) (hN : sN0 S) {host : String} (i : Nat) (hi : i < sN S) {ci : Nat} {fs : List Value} {q : vw_C} (he : sE S i (M i) = .inr (ci, fs)) (hq : (sC S)[ci]? = some q) (hM : Ct (kl K) y (.code y bytes maxL ret :: wG) h' (wS S) (sA S) (.ref (sa S i) :: av) M post) (hcode : Cond.code y bytes maxL ret ∈ wG) (hlk : Cond.methodLinkNest own index y host ∈ sW S) (hin : Cond.instanceMethod y ∈ wG) (hse : Cond.selects q.1 y y ∈ wG) (hini : Cond.initialized y.cls ∈ wG)
    (hd : y.cls ≠ "java/lang/invoke/MethodHandle" ∧ y.cls ≠ "java/lang/invoke/VarHandle" ∧ (parseMethodDescriptor y.desc).map (fun d => d.parameters.length) = some n) (hh : h' + 1 ≤ h) (hm : maxL ≤ 45) (hn : av.length = n) (hst : st = av.reverse ++ .ref (sa S i) :: rest) (hW : (rest.map fun v => v.category).sum ≤ 8) (hdg : decode cc pc = .ok (.invokevirtual index, 3))
    (kk : ∀ (r : Option Value) (M' : Me), post r M' → V K (wp S) M' (pc + 3) lv (r.toList ++ rest)) : V K (wp S) M pc lv st := fun H locs ls hw hS hl =>
  q_side hC hS hl (va_runVN (As := av) (rest := rest) (C := q.1) ⟨h0.1, h0.2, hC.ml, hC.own, hC.ts⟩ hM ⟨va_cnB n hC.ts (wG_goodIn hcode) rfl rfl rfl (hC.nw _ hlk) (hC.ts _ hini) hd (room_ok hC hh hm), hC.ts _ hin, hC.ts _ hse⟩ ⟨wS_blind hN M _, va_recv hC.k hw hq (q0 := i) (by rw [wl_at S M hi, he]), fun U hU hW9 => ⟨rfl, wS_of hC hN hw hU hW9⟩⟩ rfl hn hl.1 hst (lv_room hW) hdg (room_0 hC)) kk
end CR
/-- a method's end -/
def Rx (S : Sd) (K : Cf) (post : Option Value → Me → Prop) (ret : Option FieldType) : Prop :=
  kQ K = MQ (kb K) (QC (wS S) (sA S) post) (ka K) (ks K) (kcs K) (ksl K) (sA S) ∧ (kM K).sig.returnType = ret ∧ (kM K).locks = false ∧ sN0 S
section RR
variable {S : Sd} {K : Cf} {own : String} {h : Nat} {M : Me} {cc : ByteArray} {pc : Nat} {lv : List (Nat × Value)} {post : Option Value → Me → Prop} {ret : Option FieldType}
theorem r_post (hC : Cx S K own h) (hN : sN0 S) {H : Heap} {locs : List Loc} (hw : wp S M H) (hS : va_S (kA K) (ks K).heap H locs) {r : Option Value} (hp : post r M) : ∀ t : State, t.heap = H → (ks K).WarmedH t.vm → QC (wS S) (sA S) post (ka K) (ks K) (.returned r) t := by
  intro t ht hW
  have hA : kA K = sA S := hC.2.2.2.2.1
  rw [hA] at hS
  exact ⟨⟨r, M, rfl, hp, wS_of hC hN hw ht hW⟩, hS.F ht⟩
theorem r_free (hC : Cx S K own h) {H H0 : Heap} {locs : List Loc} (hS : va_S (kA K) H0 H locs) : ∀ q ∈ locs, sA S q.base := by
  have hA : kA K = sA S := hC.2.2.2.2.1
  rw [hA] at hS
  exact hS.2.2
theorem v_iret (h0 : C0 K cc) (hC : Cx S K own h) (hR : Rx S K post (some .int)) {x : Int32} (hdg : decode cc pc = .ok (.ireturn, 1)) (hp : post (some (.int x)) M) : V K (wp S) M pc lv [.int x] := fun H locs ls hw hS _ => by
  show W _ _ _ _ _ _ _ _ _ _ _ _ _ _ (kQ K) _
  rw [hR.1]
  exact W.iret h0.1 h0.2 hR.2.1 (r_post hC hR.2.2.2 hw hS hp) (r_free hC hS) hdg (hlocks := hR.2.2.1)
theorem v_zret (h0 : C0 K cc) (hC : Cx S K own h) {ty : FieldType} (hR : Rx S K post (some ty)) {x : Int32} (hn : narrow ty (.int x) = .int x) (hdg : decode cc pc = .ok (.ireturn, 1)) (hp : post (some (.int x)) M) : V K (wp S) M pc lv [.int x] := fun H locs ls hw hS _ => by
  show W _ _ _ _ _ _ _ _ _ _ _ _ _ _ (kQ K) _
  rw [hR.1]
  exact W.zret h0.1 h0.2 hR.2.1 hn (r_post hC hR.2.2.2 hw hS hp) (r_free hC hS) hdg (hlocks := hR.2.2.1)
theorem v_vret (h0 : C0 K cc) (hC : Cx S K own h) (hR : Rx S K post none) (hdg : decode cc pc = .ok (.return_, 1)) (hp : post none M) : V K (wp S) M pc lv [] := fun H locs ls hw hS _ => by
  show W _ _ _ _ _ _ _ _ _ _ _ _ _ _ (kQ K) _
  rw [hR.1]
  exact W.vret h0.1 h0.2 hR.2.1 (r_post hC hR.2.2.2 hw hS hp) (r_free hC hS) hdg (hlocks := hR.2.2.1)
theorem v_aret (h0 : C0 K cc) (hC : Cx S K own h) {C : String} (hR : Rx S K post (some (.object C))) {v : Value} (hv : v = .null ∨ ∃ a, v = .ref a) (hdg : decode cc pc = .ok (.areturn, 1)) (hp : post (some v) M) : V K (wp S) M pc lv [v] := fun H locs ls hw hS _ => by
  show W _ _ _ _ _ _ _ _ _ _ _ _ _ _ (kQ K) _
  rw [hR.1]
  exact W.aret h0.1 h0.2 hR.2.1 (Or.inl ⟨C, rfl⟩) hv (r_post hC hR.2.2.2 hw hS hp) (r_free hC hS) hdg (hlocks := hR.2.2.1)
end RR
/-- a contract out of a walk -/
theorem Ct.of {S : Sd} {l : Launch} {y : MethodName} {cc : ByteArray} {maxL : Nat} {ret : Option FieldType} {h : Nat} {av : List Value} {M : Me} {post : Option Value → Me → Prop} (hI : sI S) (hN : sN0 S) (hy : plainName y.cls = true) (hlen : (lg_sl av).length ≤ maxL)
    (body : ∀ K : Cf, C0 K cc → Cx S K y.cls h → Rx S K post ret → kl K = l → kn K = maxL → V K (wp S) M 0 (lv_args 0 av) []) : Ct l y (.code y cc maxL ret :: wG) h (wS S) (sA S) av M post := by
  refine Met.ofW (cc := cc) (maxL := maxL) (ret := ret) hy rfl ?_
  intro p e s m args below meth c s₁ B hml hv
  obtain ⟨rfl, hP, hK, hNw⟩ := hv
  have hts := atoms_spec (ws := .code y cc maxL ret :: wG) B.pre
  have hb := body (p, l, e, rm h, s, m, av.toArray, below, meth, c, maxL, 0, 0, sA S, MQ below (QC (wS S) (sA S) post) av.toArray s 0 0 (sA S)) ⟨B.exec, B.bytes⟩ ⟨findClass_of_methodNamed B.named, fun w hw => hts w (List.mem_cons_of_mem _ hw), hK, hNw, rfl, hI, hml, rfl, rfl, rfl⟩ ⟨rfl, B.returns, B.notSynchronized, hN⟩ rfl rfl
  rw [lg_entry_eq]
  exact hb s.heap [] _ hP va_S.rf (lv_entry av hlen)
end
section
def gC_B : String := "CellBook"
def gT_B : u_T := fun k => match k with
  | 0 => ("CellBook", "cells", "[LCellBook$Cell;", true)
  | 1 => ("CellBook", "definers", "[LCellBook$Cell;", true)
  | 2 => ("CellBook", "reached", "[I", true)
  | 3 => ("CellBook", "evaluator", "LCellBook$Evaluator;", true)
  | 4 => ("CellBook", "typed", "[C", true)
  | _ => ("CellBook", "typedLength", "I", false)
def gU_B : Nat → FieldType := fun k => match k with
  | 0 => (.array (.object "CellBook$Cell"))
  | 1 => (.array (.object "CellBook$Cell"))
  | 2 => (.array .int)
  | 3 => (.object "CellBook$Evaluator")
  | 4 => (.array .char)
  | _ => .int
theorem gN_B : ∀ a, a < 6 → ∀ b, b < 6 → a ≠ b → (gT_B a).2.1 ≠ (gT_B b).2.1 := by decide +kernel
theorem gO_B : ∀ k, k < 6 → parseFieldDescriptor (gT_B k).2.2.1 = some (gU_B k) := by decide +kernel
def gC_Ce : String := "CellBook$Cell"
def gT_Ce : u_T := fun k => match k with
  | 0 => ("CellBook$Cell", "text", "LCellBook$Text;", true)
  | 1 => ("CellBook$Cell", "name", "I", false)
  | 2 => ("CellBook$Cell", "fault", "I", false)
  | 3 => ("CellBook$Cell", "stale", "Z", false)
  | 4 => ("CellBook$Cell", "result", "I", false)
  | 5 => ("CellBook$Cell", "amount", "I", false)
  | 6 => ("CellBook$Cell", "sort", "I", false)
  | _ => ("CellBook$Cell", "runCount", "I", false)
def gU_Ce : Nat → FieldType := fun k => match k with
  | 0 => (.object "CellBook$Text")
  | 1 => .int
  | 2 => .int
  | 3 => .boolean
  | 4 => .int
  | 5 => .int
  | 6 => .int
  | _ => .int
theorem gN_Ce : ∀ a, a < 8 → ∀ b, b < 8 → a ≠ b → (gT_Ce a).2.1 ≠ (gT_Ce b).2.1 := by decide +kernel
theorem gO_Ce : ∀ k, k < 8 → parseFieldDescriptor (gT_Ce k).2.2.1 = some (gU_Ce k) := by decide +kernel
def gC_Te : String := "CellBook$Text"
def gT_Te : u_T := fun k => match k with
  | 0 => ("CellBook$Text", "signs", "[C", true)
  | 1 => ("CellBook$Text", "ends", "[I", true)
  | 2 => ("CellBook$Text", "length", "I", false)
  | 3 => ("CellBook$Text", "start", "I", false)
  | 4 => ("CellBook$Text", "wellFormed", "Z", false)
  | _ => ("CellBook$Text", "names", "I", false)
def gU_Te : Nat → FieldType := fun k => match k with
  | 0 => (.array .char)
  | 1 => (.array .int)
  | 2 => .int
  | 3 => .int
  | 4 => .boolean
  | _ => .int
theorem gN_Te : ∀ a, a < 6 → ∀ b, b < 6 → a ≠ b → (gT_Te a).2.1 ≠ (gT_Te b).2.1 := by decide +kernel
theorem gO_Te : ∀ k, k < 6 → parseFieldDescriptor (gT_Te k).2.2.1 = some (gU_Te k) := by decide +kernel
def gC_Ty : String := "CellBook$Types"
def gC_Fr : String := "CellBook$Frame"
def gT_Fr : u_T := fun k => match k with
  | 0 => ("CellBook$Frame", "openFunctions", "I", true)
  | 1 => ("CellBook$Frame", "locals", "[I", true)
  | _ => ("CellBook$Frame", "text", "LCellBook$Text;", false)
def gU_Fr : Nat → FieldType := fun k => match k with
  | 0 => .int
  | 1 => (.array .int)
  | _ => (.object "CellBook$Text")
theorem gN_Fr : ∀ a, a < 3 → ∀ b, b < 3 → a ≠ b → (gT_Fr a).2.1 ≠ (gT_Fr b).2.1 := by decide +kernel
theorem gO_Fr : ∀ k, k < 3 → parseFieldDescriptor (gT_Fr k).2.2.1 = some (gU_Fr k) := by decide +kernel
def gC_Ev : String := "CellBook$Evaluator"
def gT_Ev : u_T := fun k => match k with
  | 0 => ("CellBook$Evaluator", "frames", "[LCellBook$Frame;", true)
  | 1 => ("CellBook$Evaluator", "definers", "[LCellBook$Cell;", false)
  | 2 => ("CellBook$Evaluator", "stepsMade", "I", false)
  | 3 => ("CellBook$Evaluator", "stepsInAll", "I", false)
  | _ => ("CellBook$Evaluator", "error", "I", false)
def gU_Ev : Nat → FieldType := fun k => match k with
  | 0 => (.array (.object "CellBook$Frame"))
  | 1 => (.array (.object "CellBook$Cell"))
  | 2 => .int
  | 3 => .int
  | _ => .int
theorem gN_Ev : ∀ a, a < 5 → ∀ b, b < 5 → a ≠ b → (gT_Ev a).2.1 ≠ (gT_Ev b).2.1 := by decide +kernel
theorem gO_Ev : ∀ k, k < 5 → parseFieldDescriptor (gT_Ev k).2.2.1 = some (gU_Ev k) := by decide +kernel
def gC_Mo : String := "CellBookModel"
def gT_Mo : u_T := fun k => match k with
  | 0 => ("CellBookModel", "typed", "[C", false)
  | 1 => ("CellBookModel", "typedCount", "I", false)
  | 2 => ("CellBookModel", "text", "[C", false)
  | 3 => ("CellBookModel", "length", "[I", false)
  | 4 => ("CellBookModel", "named", "[I", false)
  | 5 => ("CellBookModel", "end", "[I", false)
  | 6 => ("CellBookModel", "label", "[Z", false)
  | 7 => ("CellBookModel", "well", "[Z", false)
  | 8 => ("CellBookModel", "used", "[I", false)
  | 9 => ("CellBookModel", "stale", "[Z", false)
  | 10 => ("CellBookModel", "result", "[I", false)
  | 11 => ("CellBookModel", "valueOf", "[I", false)
  | 12 => ("CellBookModel", "kindOf", "[I", false)
  | 13 => ("CellBookModel", "runsOf", "[I", false)
  | 14 => ("CellBookModel", "made", "I", false)
  | 15 => ("CellBookModel", "todo", "[I", false)
  | 16 => ("CellBookModel", "nested", "I", false)
  | 17 => ("CellBookModel", "todoCount", "I", false)
  | 18 => ("CellBookModel", "bound", "[I", false)
  | 19 => ("CellBookModel", "types", "[I", false)
  | 20 => ("CellBookModel", "typeCount", "I", false)
  | 21 => ("CellBookModel", "cellAt", "[I", false)
  | 22 => ("CellBookModel", "at", "[I", false)
  | 23 => ("CellBookModel", "stage", "[I", false)
  | 24 => ("CellBookModel", "first", "[I", false)
  | 25 => ("CellBookModel", "open", "I", false)
  | 26 => ("CellBookModel", "local", "[I", false)
  | 27 => ("CellBookModel", "depth", "I", false)
  | 28 => ("CellBookModel", "fuel", "I", false)
  | 29 => ("CellBookModel", "out", "I", false)
  | _ => ("CellBookModel", "error", "I", false)
def gU_Mo : Nat → FieldType := fun k => match k with
  | 0 => (.array .char)
  | 1 => .int
  | 2 => (.array .char)
  | 3 => (.array .int)
  | 4 => (.array .int)
  | 5 => (.array .int)
  | 6 => (.array .boolean)
  | 7 => (.array .boolean)
  | 8 => (.array .int)
  | 9 => (.array .boolean)
  | 10 => (.array .int)
  | 11 => (.array .int)
  | 12 => (.array .int)
  | 13 => (.array .int)
  | 14 => .int
  | 15 => (.array .int)
  | 16 => .int
  | 17 => .int
  | 18 => (.array .int)
  | 19 => (.array .int)
  | 20 => .int
  | 21 => (.array .int)
  | 22 => (.array .int)
  | 23 => (.array .int)
  | 24 => (.array .int)
  | 25 => .int
  | 26 => (.array .int)
  | 27 => .int
  | 28 => .int
  | 29 => .int
  | _ => .int
theorem gN_Mo : ∀ a, a < 31 → ∀ b, b < 31 → a ≠ b → (gT_Mo a).2.1 ≠ (gT_Mo b).2.1 := by decide +kernel
theorem gO_Mo : ∀ k, k < 31 → parseFieldDescriptor (gT_Mo k).2.2.1 = some (gU_Mo k) := by decide +kernel
abbrev c_B_init : ByteArray := prog_1_method_1_code
def y_B_init : MethodName := ⟨gC_B, "<init>", "()V"⟩
abbrev c_Ce_init : ByteArray := prog_2_method_1_code
def y_Ce_init : MethodName := ⟨gC_Ce, "<init>", "()V"⟩
abbrev c_Te_init : ByteArray := prog_5_method_1_code
def y_Te_init : MethodName := ⟨gC_Te, "<init>", "()V"⟩
abbrev c_Ev_init : ByteArray := prog_3_method_1_code
def y_Ev_init : MethodName := ⟨gC_Ev, "<init>", "()V"⟩
abbrev c_Fr_init : ByteArray := prog_4_method_1_code
def y_Fr_init : MethodName := ⟨gC_Fr, "<init>", "(I)V"⟩
abbrev c_B_type : ByteArray := prog_1_method_2_code
def y_B_type : MethodName := ⟨gC_B, "type", "(JI)I"⟩
abbrev c_B_areTypeable : ByteArray := prog_1_method_19_code
def y_B_areTypeable : MethodName := ⟨gC_B, "areTypeable", "(JI)Z"⟩
abbrev c_B_characterAt : ByteArray := prog_1_method_18_code
def y_B_characterAt : MethodName := ⟨gC_B, "characterAt", "(JI)C"⟩
abbrev c_B_set : ByteArray := prog_1_method_3_code
def y_B_set : MethodName := ⟨gC_B, "set", "(II)Z"⟩
abbrev c_B_isCell : ByteArray := prog_1_method_13_code
def y_B_isCell : MethodName := ⟨gC_B, "isCell", "(I)Z"⟩
abbrev c_Ce_nameBit : ByteArray := prog_2_method_4_code
def y_Ce_nameBit : MethodName := ⟨gC_Ce, "nameBit", "()I"⟩
abbrev c_Ce_isEmpty : ByteArray := prog_2_method_3_code
def y_Ce_isEmpty : MethodName := ⟨gC_Ce, "isEmpty", "()Z"⟩
abbrev c_Te_read : ByteArray := prog_5_method_3_code
def y_Te_read : MethodName := ⟨gC_Te, "read", "([CI)V"⟩
abbrev c_Te_signAt : ByteArray := prog_5_method_5_code
def y_Te_signAt : MethodName := ⟨gC_Te, "signAt", "(I)C"⟩
abbrev c_B_isLocal : ByteArray := prog_1_method_16_code
def y_B_isLocal : MethodName := ⟨gC_B, "isLocal", "(C)Z"⟩
abbrev c_Te_localAt : ByteArray := prog_5_method_7_code
def y_Te_localAt : MethodName := ⟨gC_Te, "localAt", "(I)I"⟩
abbrev c_Te_readExpression : ByteArray := prog_5_method_8_code
def y_Te_readExpression : MethodName := ⟨gC_Te, "readExpression", "(III)I"⟩
abbrev c_Te_readSign : ByteArray := prog_5_method_9_code
def y_Te_readSign : MethodName := ⟨gC_Te, "readSign", "(III)I"⟩
abbrev c_Te_readExpressions : ByteArray := prog_5_method_10_code
def y_Te_readExpressions : MethodName := ⟨gC_Te, "readExpressions", "(IIII)I"⟩
abbrev c_Te_readBinding : ByteArray := prog_5_method_11_code
def y_Te_readBinding : MethodName := ⟨gC_Te, "readBinding", "(III)I"⟩
abbrev c_Te_readName : ByteArray := prog_5_method_14_code
def y_Te_readName : MethodName := ⟨gC_Te, "readName", "(I)I"⟩
abbrev c_B_isName : ByteArray := prog_1_method_15_code
def y_B_isName : MethodName := ⟨gC_B, "isName", "(C)Z"⟩
abbrev c_Te_readMatch : ByteArray := prog_5_method_12_code
def y_Te_readMatch : MethodName := ⟨gC_Te, "readMatch", "(III)I"⟩
abbrev c_B_isDigit : ByteArray := prog_1_method_14_code
def y_B_isDigit : MethodName := ⟨gC_B, "isDigit", "(C)Z"⟩
abbrev c_Te_readLeaf : ByteArray := prog_5_method_13_code
def y_Te_readLeaf : MethodName := ⟨gC_Te, "readLeaf", "(II)I"⟩
abbrev c_B_hasBit : ByteArray := prog_1_method_17_code
def y_B_hasBit : MethodName := ⟨gC_B, "hasBit", "(II)Z"⟩
abbrev c_B_follow : ByteArray := prog_1_method_21_code
def y_B_follow : MethodName := ⟨gC_B, "follow", "(I)V"⟩
abbrev c_B_findDefiners : ByteArray := prog_1_method_22_code
def y_B_findDefiners : MethodName := ⟨gC_B, "findDefiners", "()V"⟩
abbrev c_B_findWays : ByteArray := prog_1_method_25_code
def y_B_findWays : MethodName := ⟨gC_B, "findWays", "()V"⟩
abbrev c_Te_isFunction : ByteArray := prog_5_method_4_code
def y_Te_isFunction : MethodName := ⟨gC_Te, "isFunction", "()Z"⟩
abbrev c_B_othersUsedBy : ByteArray := prog_1_method_24_code
def y_B_othersUsedBy : MethodName := ⟨gC_B, "othersUsedBy", "(I)I"⟩
abbrev c_B_cellsDefining : ByteArray := prog_1_method_23_code
def y_B_cellsDefining : MethodName := ⟨gC_B, "cellsDefining", "(I)I"⟩
abbrev c_B_faultOf : ByteArray := prog_1_method_26_code
def y_B_faultOf : MethodName := ⟨gC_B, "faultOf", "(I)I"⟩
abbrev c_B_usesMissingName : ByteArray := prog_1_method_27_code
def y_B_usesMissingName : MethodName := ⟨gC_B, "usesMissingName", "(LCellBook$Cell;)Z"⟩
abbrev c_B_spreadStale : ByteArray := prog_1_method_28_code
def y_B_spreadStale : MethodName := ⟨gC_B, "spreadStale", "(I)V"⟩
abbrev c_B_makeUsersStale : ByteArray := prog_1_method_29_code
def y_B_makeUsersStale : MethodName := ⟨gC_B, "makeUsersStale", "(I)I"⟩
abbrev c_B_remove : ByteArray := prog_1_method_4_code
def y_B_remove : MethodName := ⟨gC_B, "remove", "(I)Z"⟩
abbrev c_Ce_clear : ByteArray := prog_2_method_2_code
def y_Ce_clear : MethodName := ⟨gC_Ce, "clear", "()V"⟩
abbrev c_Te_clear : ByteArray := prog_5_method_2_code
def y_Te_clear : MethodName := ⟨gC_Te, "clear", "()V"⟩
abbrev c_B_work : ByteArray := prog_1_method_5_code
def y_B_work : MethodName := ⟨gC_B, "work", "(I)I"⟩
abbrev c_B_nextToWorkOn : ByteArray := prog_1_method_30_code
def y_B_nextToWorkOn : MethodName := ⟨gC_B, "nextToWorkOn", "()I"⟩
abbrev c_B_staleCells : ByteArray := prog_1_method_31_code
def y_B_staleCells : MethodName := ⟨gC_B, "staleCells", "()I"⟩
abbrev c_B_workOn : ByteArray := prog_1_method_33_code
def y_B_workOn : MethodName := ⟨gC_B, "workOn", "(I)V"⟩
abbrev c_B_usableCells : ByteArray := prog_1_method_32_code
def y_B_usableCells : MethodName := ⟨gC_B, "usableCells", "()I"⟩
abbrev c_Ce_isUsable : ByteArray := prog_2_method_6_code
def y_Ce_isUsable : MethodName := ⟨gC_Ce, "isUsable", "()Z"⟩
abbrev c_Ce_shown : ByteArray := prog_2_method_5_code
def y_Ce_shown : MethodName := ⟨gC_Ce, "shown", "()I"⟩
abbrev c_Ty_ofText : ByteArray := prog_6_method_2_code
def y_Ty_ofText : MethodName := ⟨gC_Ty, "ofText", "([LCellBook$Cell;LCellBook$Text;)I"⟩
abbrev c_Ty_ofExpression : ByteArray := prog_6_method_3_code
def y_Ty_ofExpression : MethodName := ⟨gC_Ty, "ofExpression", "([LCellBook$Cell;LCellBook$Text;II)I"⟩
abbrev c_Ty_areBoth : ByteArray := prog_6_method_4_code
def y_Ty_areBoth : MethodName := ⟨gC_Ty, "areBoth", "(I[LCellBook$Cell;LCellBook$Text;II)Z"⟩
abbrev c_Te_endOf : ByteArray := prog_5_method_6_code
def y_Te_endOf : MethodName := ⟨gC_Te, "endOf", "(I)I"⟩
abbrev c_Ty_ofChoice : ByteArray := prog_6_method_5_code
def y_Ty_ofChoice : MethodName := ⟨gC_Ty, "ofChoice", "([LCellBook$Cell;LCellBook$Text;II)I"⟩
abbrev c_Ty_ofBinding : ByteArray := prog_6_method_6_code
def y_Ty_ofBinding : MethodName := ⟨gC_Ty, "ofBinding", "([LCellBook$Cell;LCellBook$Text;II)I"⟩
abbrev c_Ty_ofCall : ByteArray := prog_6_method_7_code
def y_Ty_ofCall : MethodName := ⟨gC_Ty, "ofCall", "([LCellBook$Cell;LCellBook$Text;II)I"⟩
abbrev c_B_definerOf : ByteArray := prog_1_method_20_code
def y_B_definerOf : MethodName := ⟨gC_B, "definerOf", "([LCellBook$Cell;C)LCellBook$Cell;"⟩
abbrev c_Ty_ofMatch : ByteArray := prog_6_method_8_code
def y_Ty_ofMatch : MethodName := ⟨gC_Ty, "ofMatch", "([LCellBook$Cell;LCellBook$Text;II)I"⟩
abbrev c_Ty_ofLeaf : ByteArray := prog_6_method_9_code
def y_Ty_ofLeaf : MethodName := ⟨gC_Ty, "ofLeaf", "([LCellBook$Cell;C)I"⟩
abbrev c_Ev_run : ByteArray := prog_3_method_2_code
def y_Ev_run : MethodName := ⟨gC_Ev, "run", "(LCellBook$Cell;I[LCellBook$Cell;)V"⟩
abbrev c_Ev_ofExpression : ByteArray := prog_3_method_5_code
def y_Ev_ofExpression : MethodName := ⟨gC_Ev, "ofExpression", "(LCellBook$Frame;II)I"⟩
abbrev c_Ev_fail : ByteArray := prog_3_method_3_code
def y_Ev_fail : MethodName := ⟨gC_Ev, "fail", "(I)I"⟩
abbrev c_Ev_ofBoth : ByteArray := prog_3_method_9_code
def y_Ev_ofBoth : MethodName := ⟨gC_Ev, "ofBoth", "(LCellBook$Frame;II)I"⟩
abbrev c_Ev_hasFailed : ByteArray := prog_3_method_4_code
def y_Ev_hasFailed : MethodName := ⟨gC_Ev, "hasFailed", "()Z"⟩
abbrev c_Ev_ofChoice : ByteArray := prog_3_method_10_code
def y_Ev_ofChoice : MethodName := ⟨gC_Ev, "ofChoice", "(LCellBook$Frame;II)I"⟩
abbrev c_Ev_ofBinding : ByteArray := prog_3_method_11_code
def y_Ev_ofBinding : MethodName := ⟨gC_Ev, "ofBinding", "(LCellBook$Frame;II)I"⟩
abbrev c_Ev_ofCall : ByteArray := prog_3_method_12_code
def y_Ev_ofCall : MethodName := ⟨gC_Ev, "ofCall", "(LCellBook$Frame;II)I"⟩
abbrev c_Ev_ofMatch : ByteArray := prog_3_method_13_code
def y_Ev_ofMatch : MethodName := ⟨gC_Ev, "ofMatch", "(LCellBook$Frame;II)I"⟩
abbrev c_Ev_ofPair : ByteArray := prog_3_method_7_code
def y_Ev_ofPair : MethodName := ⟨gC_Ev, "ofPair", "(LCellBook$Frame;II)I"⟩
abbrev c_Ev_combine : ByteArray := prog_3_method_8_code
def y_Ev_combine : MethodName := ⟨gC_Ev, "combine", "(CII)I"⟩
abbrev c_Ev_ofLeaf : ByteArray := prog_3_method_6_code
def y_Ev_ofLeaf : MethodName := ⟨gC_Ev, "ofLeaf", "(LCellBook$Frame;I)I"⟩
abbrev c_B_cancel : ByteArray := prog_1_method_6_code
def y_B_cancel : MethodName := ⟨gC_B, "cancel", "(I)Z"⟩
abbrev c_B_status : ByteArray := prog_1_method_7_code
def y_B_status : MethodName := ⟨gC_B, "status", "(I)I"⟩
abbrev c_B_value : ByteArray := prog_1_method_8_code
def y_B_value : MethodName := ⟨gC_B, "value", "(I)I"⟩
abbrev c_B_kind : ByteArray := prog_1_method_9_code
def y_B_kind : MethodName := ⟨gC_B, "kind", "(I)I"⟩
abbrev c_B_uses : ByteArray := prog_1_method_10_code
def y_B_uses : MethodName := ⟨gC_B, "uses", "(I)I"⟩
abbrev c_B_runs : ByteArray := prog_1_method_11_code
def y_B_runs : MethodName := ⟨gC_B, "runs", "(I)I"⟩
abbrev c_B_steps : ByteArray := prog_1_method_12_code
def y_B_steps : MethodName := ⟨gC_B, "steps", "()I"⟩
abbrev c_Mo_init : ByteArray := prog_8_method_1_code
def y_Mo_init : MethodName := ⟨gC_Mo, "<init>", "()V"⟩
abbrev c_Mo_type : ByteArray := prog_8_method_9_code
def y_Mo_type : MethodName := ⟨gC_Mo, "type", "(JI)I"⟩
abbrev c_Mo_set : ByteArray := prog_8_method_21_code
def y_Mo_set : MethodName := ⟨gC_Mo, "set", "(II)Z"⟩
abbrev c_Mo_isCell : ByteArray := prog_8_method_2_code
def y_Mo_isCell : MethodName := ⟨gC_Mo, "isCell", "(I)Z"⟩
abbrev c_Mo_reads : ByteArray := prog_8_method_13_code
def y_Mo_reads : MethodName := ⟨gC_Mo, "reads", "(I)Z"⟩
abbrev c_Mo_charAt : ByteArray := prog_8_method_10_code
def y_Mo_charAt : MethodName := ⟨gC_Mo, "charAt", "(II)C"⟩
abbrev c_Mo_isLocal : ByteArray := prog_8_method_5_code
def y_Mo_isLocal : MethodName := ⟨gC_Mo, "isLocal", "(C)Z"⟩
abbrev c_Mo_come : ByteArray := prog_8_method_11_code
def y_Mo_come : MethodName := ⟨gC_Mo, "come", "(I)V"⟩
abbrev c_Mo_isDigit : ByteArray := prog_8_method_3_code
def y_Mo_isDigit : MethodName := ⟨gC_Mo, "isDigit", "(C)Z"⟩
abbrev c_Mo_readOne : ByteArray := prog_8_method_12_code
def y_Mo_readOne : MethodName := ⟨gC_Mo, "readOne", "(II)I"⟩
abbrev c_Mo_isName : ByteArray := prog_8_method_4_code
def y_Mo_isName : MethodName := ⟨gC_Mo, "isName", "(C)Z"⟩
abbrev c_Mo_isBinary : ByteArray := prog_8_method_6_code
def y_Mo_isBinary : MethodName := ⟨gC_Mo, "isBinary", "(C)Z"⟩
abbrev c_Mo_findEnds : ByteArray := prog_8_method_15_code
def y_Mo_findEnds : MethodName := ⟨gC_Mo, "findEnds", "(I)V"⟩
abbrev c_Mo_isFunction : ByteArray := prog_8_method_8_code
def y_Mo_isFunction : MethodName := ⟨gC_Mo, "isFunction", "(I)Z"⟩
abbrev c_Mo_operands : ByteArray := prog_8_method_14_code
def y_Mo_operands : MethodName := ⟨gC_Mo, "operands", "(C)I"⟩
abbrev c_Mo_becomes : ByteArray := prog_8_method_20_code
def y_Mo_becomes : MethodName := ⟨gC_Mo, "becomes", "(II)V"⟩
abbrev c_Mo_isThere : ByteArray := prog_8_method_7_code
def y_Mo_isThere : MethodName := ⟨gC_Mo, "isThere", "(I)Z"⟩
abbrev c_Mo_needs : ByteArray := prog_8_method_17_code
def y_Mo_needs : MethodName := ⟨gC_Mo, "needs", "(II)Z"⟩
abbrev c_Mo_remove : ByteArray := prog_8_method_22_code
def y_Mo_remove : MethodName := ⟨gC_Mo, "remove", "(I)Z"⟩
abbrev c_Mo_work : ByteArray := prog_8_method_43_code
def y_Mo_work : MethodName := ⟨gC_Mo, "work", "(I)I"⟩
abbrev c_Mo_workOnce : ByteArray := prog_8_method_42_code
def y_Mo_workOnce : MethodName := ⟨gC_Mo, "workOnce", "()Z"⟩
abbrev c_Mo_isReady : ByteArray := prog_8_method_41_code
def y_Mo_isReady : MethodName := ⟨gC_Mo, "isReady", "(I)Z"⟩
abbrev c_Mo_fault : ByteArray := prog_8_method_19_code
def y_Mo_fault : MethodName := ⟨gC_Mo, "fault", "(I)I"⟩
abbrev c_Mo_definer : ByteArray := prog_8_method_16_code
def y_Mo_definer : MethodName := ⟨gC_Mo, "definer", "(I)I"⟩
abbrev c_Mo_cycles : ByteArray := prog_8_method_18_code
def y_Mo_cycles : MethodName := ⟨gC_Mo, "cycles", "(I)Z"⟩
abbrev c_Mo_workOut : ByteArray := prog_8_method_40_code
def y_Mo_workOut : MethodName := ⟨gC_Mo, "workOut", "(I)V"⟩
abbrev c_Mo_blocks : ByteArray := prog_8_method_39_code
def y_Mo_blocks : MethodName := ⟨gC_Mo, "blocks", "(I)Z"⟩
abbrev c_Mo_typeOf : ByteArray := prog_8_method_28_code
def y_Mo_typeOf : MethodName := ⟨gC_Mo, "typeOf", "(I)I"⟩
abbrev c_Mo_ownName : ByteArray := prog_8_method_29_code
def y_Mo_ownName : MethodName := ⟨gC_Mo, "ownName", "(II)Z"⟩
abbrev c_Mo_typeOfName : ByteArray := prog_8_method_25_code
def y_Mo_typeOfName : MethodName := ⟨gC_Mo, "typeOfName", "(I)I"⟩
abbrev c_Mo_typeOver : ByteArray := prog_8_method_27_code
def y_Mo_typeOver : MethodName := ⟨gC_Mo, "typeOver", "(II)I"⟩
abbrev c_Mo_popType : ByteArray := prog_8_method_24_code
def y_Mo_popType : MethodName := ⟨gC_Mo, "popType", "()I"⟩
abbrev c_Mo_isFunctionName : ByteArray := prog_8_method_26_code
def y_Mo_isFunctionName : MethodName := ⟨gC_Mo, "isFunctionName", "(II)Z"⟩
abbrev c_Mo_pushType : ByteArray := prog_8_method_23_code
def y_Mo_pushType : MethodName := ⟨gC_Mo, "pushType", "(I)V"⟩
abbrev c_Mo_evaluate : ByteArray := prog_8_method_38_code
def y_Mo_evaluate : MethodName := ⟨gC_Mo, "evaluate", "(II)V"⟩
abbrev c_Mo_enter : ByteArray := prog_8_method_30_code
def y_Mo_enter : MethodName := ⟨gC_Mo, "enter", "(II)V"⟩
abbrev c_Mo_goOn : ByteArray := prog_8_method_33_code
def y_Mo_goOn : MethodName := ⟨gC_Mo, "goOn", "()V"⟩
abbrev c_Mo_leave : ByteArray := prog_8_method_31_code
def y_Mo_leave : MethodName := ⟨gC_Mo, "leave", "(I)V"⟩
abbrev c_Mo_branch : ByteArray := prog_8_method_34_code
def y_Mo_branch : MethodName := ⟨gC_Mo, "branch", "(IIII)V"⟩
abbrev c_Mo_let : ByteArray := prog_8_method_35_code
def y_Mo_let : MethodName := ⟨gC_Mo, "let", "(IIII)V"⟩
abbrev c_Mo_call : ByteArray := prog_8_method_36_code
def y_Mo_call : MethodName := ⟨gC_Mo, "call", "(III)V"⟩
abbrev c_Mo_match : ByteArray := prog_8_method_37_code
def y_Mo_match : MethodName := ⟨gC_Mo, "match", "(IIII)V"⟩
abbrev c_Mo_joined : ByteArray := prog_8_method_32_code
def y_Mo_joined : MethodName := ⟨gC_Mo, "joined", "(CII)I"⟩
abbrev c_Mo_cancel : ByteArray := prog_8_method_44_code
def y_Mo_cancel : MethodName := ⟨gC_Mo, "cancel", "(I)Z"⟩
abbrev c_Mo_status : ByteArray := prog_8_method_45_code
def y_Mo_status : MethodName := ⟨gC_Mo, "status", "(I)I"⟩
abbrev c_Mo_value : ByteArray := prog_8_method_46_code
def y_Mo_value : MethodName := ⟨gC_Mo, "value", "(I)I"⟩
abbrev c_Mo_kind : ByteArray := prog_8_method_47_code
def y_Mo_kind : MethodName := ⟨gC_Mo, "kind", "(I)I"⟩
abbrev c_Mo_uses : ByteArray := prog_8_method_48_code
def y_Mo_uses : MethodName := ⟨gC_Mo, "uses", "(I)I"⟩
abbrev c_Mo_runs : ByteArray := prog_8_method_49_code
def y_Mo_runs : MethodName := ⟨gC_Mo, "runs", "(I)I"⟩
abbrev c_Mo_steps : ByteArray := prog_8_method_50_code
def y_Mo_steps : MethodName := ⟨gC_Mo, "steps", "()I"⟩
theorem wd_1 : Cond.initialized gC_B ∈ wG := wG_tb 1 rfl rfl
theorem wd_2 : Cond.initialized gC_Ce ∈ wG := wG_tb 2 rfl rfl
theorem wd_3 : Cond.initialized gC_Te ∈ wG := wG_tb 3 rfl rfl
theorem wd_4 : Cond.initialized gC_Ev ∈ wG := wG_tb 4 rfl rfl
theorem wd_5 : Cond.initialized gC_Fr ∈ wG := wG_tb 5 rfl rfl
theorem wd_6 : Cond.initialized gC_Mo ∈ wG := wG_tb 6 rfl rfl
theorem wd_9 : Cond.initialized gC_Ty ∈ wG := wG_tb 9 rfl rfl
theorem wd_11 : Cond.instantiable gC_B 6 ∈ wG := wG_tb 11 rfl rfl
theorem wd_13 : Cond.instanceMethod y_B_init ∈ wG := wG_tb 13 rfl rfl
theorem wd_14 : Cond.code y_B_init c_B_init 2 none ∈ wG := wG_tb 14 rfl rfl
theorem wd_20 : Cond.instantiable gC_Ce 8 ∈ wG := wG_tb 20 rfl rfl
theorem wd_21 : Cond.methodLink gC_B 15 y_Ce_init ∈ wG := wG_tb 21 rfl rfl
theorem wd_22 : Cond.instanceMethod y_Ce_init ∈ wG := wG_tb 22 rfl rfl
theorem wd_23 : Cond.code y_Ce_init c_Ce_init 1 none ∈ wG := wG_tb 23 rfl rfl
theorem wd_26 : Cond.instantiable gC_Te 6 ∈ wG := wG_tb 26 rfl rfl
theorem wd_27 : Cond.methodLink gC_Ce 11 y_Te_init ∈ wG := wG_tb 27 rfl rfl
theorem wd_28 : Cond.instanceMethod y_Te_init ∈ wG := wG_tb 28 rfl rfl
theorem wd_29 : Cond.code y_Te_init c_Te_init 1 none ∈ wG := wG_tb 29 rfl rfl
theorem wd_31 : Cond.fieldLink gC_Te 9 (gT_Te 0).1 (gT_Te 0).2.1 (gT_Te 0).2.2.1 ∈ wG := wG_tb 31 rfl rfl
theorem wd_32 : Cond.fieldLink gC_Te 15 (gT_Te 1).1 (gT_Te 1).2.1 (gT_Te 1).2.2.1 ∈ wG := wG_tb 32 rfl rfl
theorem wd_33 : Cond.fieldLink gC_Te 19 (gT_Te 2).1 (gT_Te 2).2.1 (gT_Te 2).2.2.1 ∈ wG := wG_tb 33 rfl rfl
theorem wd_34 : Cond.fieldLink gC_Te 23 (gT_Te 3).1 (gT_Te 3).2.1 (gT_Te 3).2.2.1 ∈ wG := wG_tb 34 rfl rfl
theorem wd_37 : Cond.fieldLink gC_Te 26 (gT_Te 4).1 (gT_Te 4).2.1 (gT_Te 4).2.2.1 ∈ wG := wG_tb 37 rfl rfl
theorem wd_39 : Cond.fieldLink gC_Te 30 (gT_Te 5).1 (gT_Te 5).2.1 (gT_Te 5).2.2.1 ∈ wG := wG_tb 39 rfl rfl
theorem wd_56 : Cond.fieldLink gC_Ce 12 (gT_Ce 0).1 (gT_Ce 0).2.1 (gT_Ce 0).2.2.1 ∈ wG := wG_tb 56 rfl rfl
theorem wd_60 : Cond.fieldLink gC_Ce 18 (gT_Ce 1).1 (gT_Ce 1).2.1 (gT_Ce 1).2.2.1 ∈ wG := wG_tb 60 rfl rfl
theorem wd_62 : Cond.fieldLink gC_Ce 22 (gT_Ce 2).1 (gT_Ce 2).2.1 (gT_Ce 2).2.2.1 ∈ wG := wG_tb 62 rfl rfl
theorem wd_64 : Cond.fieldLink gC_Ce 25 (gT_Ce 3).1 (gT_Ce 3).2.1 (gT_Ce 3).2.2.1 ∈ wG := wG_tb 64 rfl rfl
theorem wd_66 : Cond.fieldLink gC_Ce 29 (gT_Ce 4).1 (gT_Ce 4).2.1 (gT_Ce 4).2.2.1 ∈ wG := wG_tb 66 rfl rfl
theorem wd_69 : Cond.fieldLink gC_Ce 32 (gT_Ce 5).1 (gT_Ce 5).2.1 (gT_Ce 5).2.2.1 ∈ wG := wG_tb 69 rfl rfl
theorem wd_72 : Cond.fieldLink gC_Ce 35 (gT_Ce 6).1 (gT_Ce 6).2.1 (gT_Ce 6).2.2.1 ∈ wG := wG_tb 72 rfl rfl
theorem wd_76 : Cond.fieldLink gC_Ce 38 (gT_Ce 7).1 (gT_Ce 7).2.1 (gT_Ce 7).2.2.1 ∈ wG := wG_tb 76 rfl rfl
theorem wd_97 : Cond.instantiable gC_Ev 5 ∈ wG := wG_tb 97 rfl rfl
theorem wd_98 : Cond.methodLink gC_B 25 y_Ev_init ∈ wG := wG_tb 98 rfl rfl
theorem wd_99 : Cond.instanceMethod y_Ev_init ∈ wG := wG_tb 99 rfl rfl
theorem wd_100 : Cond.code y_Ev_init c_Ev_init 2 none ∈ wG := wG_tb 100 rfl rfl
theorem wd_104 : Cond.instantiable gC_Fr 3 ∈ wG := wG_tb 104 rfl rfl
theorem wd_105 : Cond.methodLink gC_Ev 17 y_Fr_init ∈ wG := wG_tb 105 rfl rfl
theorem wd_106 : Cond.instanceMethod y_Fr_init ∈ wG := wG_tb 106 rfl rfl
theorem wd_107 : Cond.code y_Fr_init c_Fr_init 2 none ∈ wG := wG_tb 107 rfl rfl
theorem wd_109 : Cond.fieldLink gC_Fr 9 (gT_Fr 0).1 (gT_Fr 0).2.1 (gT_Fr 0).2.2.1 ∈ wG := wG_tb 109 rfl rfl
theorem wd_111 : Cond.fieldLink gC_Fr 15 (gT_Fr 1).1 (gT_Fr 1).2.1 (gT_Fr 1).2.2.1 ∈ wG := wG_tb 111 rfl rfl
theorem wd_113 : Cond.fieldLink gC_Fr 19 (gT_Fr 2).1 (gT_Fr 2).2.1 (gT_Fr 2).2.2.1 ∈ wG := wG_tb 113 rfl rfl
theorem wd_122 : Cond.fieldLink gC_Ev 11 (gT_Ev 0).1 (gT_Ev 0).2.1 (gT_Ev 0).2.2.1 ∈ wG := wG_tb 122 rfl rfl
theorem wd_123 : Cond.fieldLink gC_Ev 20 (gT_Ev 1).1 (gT_Ev 1).2.1 (gT_Ev 1).2.2.1 ∈ wG := wG_tb 123 rfl rfl
theorem wd_124 : Cond.fieldLink gC_Ev 24 (gT_Ev 2).1 (gT_Ev 2).2.1 (gT_Ev 2).2.2.1 ∈ wG := wG_tb 124 rfl rfl
theorem wd_125 : Cond.fieldLink gC_Ev 28 (gT_Ev 3).1 (gT_Ev 3).2.1 (gT_Ev 3).2.2.1 ∈ wG := wG_tb 125 rfl rfl
theorem wd_127 : Cond.fieldLink gC_Ev 31 (gT_Ev 4).1 (gT_Ev 4).2.1 (gT_Ev 4).2.2.1 ∈ wG := wG_tb 127 rfl rfl
theorem wd_139 : Cond.fieldLink gC_B 11 (gT_B 0).1 (gT_B 0).2.1 (gT_B 0).2.2.1 ∈ wG := wG_tb 139 rfl rfl
theorem wd_140 : Cond.fieldLink gC_B 16 (gT_B 1).1 (gT_B 1).2.1 (gT_B 1).2.2.1 ∈ wG := wG_tb 140 rfl rfl
theorem wd_141 : Cond.fieldLink gC_B 19 (gT_B 2).1 (gT_B 2).2.1 (gT_B 2).2.2.1 ∈ wG := wG_tb 141 rfl rfl
theorem wd_142 : Cond.fieldLink gC_B 26 (gT_B 3).1 (gT_B 3).2.1 (gT_B 3).2.2.1 ∈ wG := wG_tb 142 rfl rfl
theorem wd_143 : Cond.fieldLink gC_B 30 (gT_B 4).1 (gT_B 4).2.1 (gT_B 4).2.2.1 ∈ wG := wG_tb 143 rfl rfl
theorem wd_144 : Cond.fieldLink gC_B 34 (gT_B 5).1 (gT_B 5).2.1 (gT_B 5).2.2.1 ∈ wG := wG_tb 144 rfl rfl
theorem wd_159 : Cond.instanceMethod y_B_type ∈ wG := wG_tb 159 rfl rfl
theorem wd_160 : Cond.selects gC_B y_B_type y_B_type ∈ wG := wG_tb 160 rfl rfl
theorem wd_161 : Cond.code y_B_type c_B_type 5 (some .int) ∈ wG := wG_tb 161 rfl rfl
theorem wd_162 : Cond.methodLink gC_B 38 y_B_areTypeable ∈ wG := wG_tb 162 rfl rfl
theorem wd_163 : Cond.static y_B_areTypeable ∈ wG := wG_tb 163 rfl rfl
theorem wd_164 : Cond.code y_B_areTypeable c_B_areTypeable 5 (some .boolean) ∈ wG := wG_tb 164 rfl rfl
theorem wd_165 : Cond.methodLink gC_B 42 y_B_characterAt ∈ wG := wG_tb 165 rfl rfl
theorem wd_166 : Cond.static y_B_characterAt ∈ wG := wG_tb 166 rfl rfl
theorem wd_167 : Cond.code y_B_characterAt c_B_characterAt 3 (some .char) ∈ wG := wG_tb 167 rfl rfl
theorem wd_168 : Cond.constantLong "CellBook" (109 : Nat) (255 : Int64) ∈ wG := wG_tb 168 rfl rfl
theorem wd_170 : Cond.instanceMethod y_B_set ∈ wG := wG_tb 170 rfl rfl
theorem wd_171 : Cond.selects gC_B y_B_set y_B_set ∈ wG := wG_tb 171 rfl rfl
theorem wd_172 : Cond.code y_B_set c_B_set 5 (some .boolean) ∈ wG := wG_tb 172 rfl rfl
theorem wd_173 : Cond.methodLink gC_B 46 y_B_isCell ∈ wG := wG_tb 173 rfl rfl
theorem wd_174 : Cond.static y_B_isCell ∈ wG := wG_tb 174 rfl rfl
theorem wd_175 : Cond.code y_B_isCell c_B_isCell 1 (some .boolean) ∈ wG := wG_tb 175 rfl rfl
theorem wd_176 : Cond.methodLink gC_B 50 y_Ce_nameBit ∈ wG := wG_tb 176 rfl rfl
theorem wd_177 : Cond.instanceMethod y_Ce_nameBit ∈ wG := wG_tb 177 rfl rfl
theorem wd_178 : Cond.selects gC_Ce y_Ce_nameBit y_Ce_nameBit ∈ wG := wG_tb 178 rfl rfl
theorem wd_179 : Cond.code y_Ce_nameBit c_Ce_nameBit 1 (some .int) ∈ wG := wG_tb 179 rfl rfl
theorem wd_180 : Cond.methodLink gC_Ce 44 y_Ce_isEmpty ∈ wG := wG_tb 180 rfl rfl
theorem wd_181 : Cond.instanceMethod y_Ce_isEmpty ∈ wG := wG_tb 181 rfl rfl
theorem wd_182 : Cond.selects gC_Ce y_Ce_isEmpty y_Ce_isEmpty ∈ wG := wG_tb 182 rfl rfl
theorem wd_183 : Cond.code y_Ce_isEmpty c_Ce_isEmpty 1 (some .boolean) ∈ wG := wG_tb 183 rfl rfl
theorem wd_184 : Cond.methodLink gC_B 61 y_Te_read ∈ wG := wG_tb 184 rfl rfl
theorem wd_185 : Cond.instanceMethod y_Te_read ∈ wG := wG_tb 185 rfl rfl
theorem wd_186 : Cond.selects gC_Te y_Te_read y_Te_read ∈ wG := wG_tb 186 rfl rfl
theorem wd_187 : Cond.code y_Te_read c_Te_read 4 none ∈ wG := wG_tb 187 rfl rfl
theorem wd_194 : Cond.methodLink gC_Te 45 y_Te_signAt ∈ wG := wG_tb 194 rfl rfl
theorem wd_195 : Cond.instanceMethod y_Te_signAt ∈ wG := wG_tb 195 rfl rfl
theorem wd_196 : Cond.selects gC_Te y_Te_signAt y_Te_signAt ∈ wG := wG_tb 196 rfl rfl
theorem wd_197 : Cond.code y_Te_signAt c_Te_signAt 2 (some .char) ∈ wG := wG_tb 197 rfl rfl
theorem wd_199 : Cond.static y_B_isLocal ∈ wG := wG_tb 199 rfl rfl
theorem wd_200 : Cond.code y_B_isLocal c_B_isLocal 1 (some .boolean) ∈ wG := wG_tb 200 rfl rfl
theorem wd_201 : Cond.methodLink gC_Te 53 y_Te_localAt ∈ wG := wG_tb 201 rfl rfl
theorem wd_202 : Cond.instanceMethod y_Te_localAt ∈ wG := wG_tb 202 rfl rfl
theorem wd_203 : Cond.selects gC_Te y_Te_localAt y_Te_localAt ∈ wG := wG_tb 203 rfl rfl
theorem wd_204 : Cond.code y_Te_localAt c_Te_localAt 3 (some .int) ∈ wG := wG_tb 204 rfl rfl
theorem wd_205 : Cond.methodLink gC_Te 57 y_Te_readExpression ∈ wG := wG_tb 205 rfl rfl
theorem wd_207 : Cond.instanceMethod y_Te_readExpression ∈ wG := wG_tb 207 rfl rfl
theorem wd_208 : Cond.code y_Te_readExpression c_Te_readExpression 5 (some .int) ∈ wG := wG_tb 208 rfl rfl
theorem wd_209 : Cond.methodLink gC_Te 61 y_Te_readSign ∈ wG := wG_tb 209 rfl rfl
theorem wd_211 : Cond.instanceMethod y_Te_readSign ∈ wG := wG_tb 211 rfl rfl
theorem wd_212 : Cond.code y_Te_readSign c_Te_readSign 4 (some .int) ∈ wG := wG_tb 212 rfl rfl
theorem wd_213 : Cond.methodLink gC_Te 64 y_Te_readExpressions ∈ wG := wG_tb 213 rfl rfl
theorem wd_215 : Cond.instanceMethod y_Te_readExpressions ∈ wG := wG_tb 215 rfl rfl
theorem wd_216 : Cond.code y_Te_readExpressions c_Te_readExpressions 7 (some .int) ∈ wG := wG_tb 216 rfl rfl
theorem wd_217 : Cond.methodLink gC_Te 68 y_Te_readBinding ∈ wG := wG_tb 217 rfl rfl
theorem wd_219 : Cond.instanceMethod y_Te_readBinding ∈ wG := wG_tb 219 rfl rfl
theorem wd_220 : Cond.code y_Te_readBinding c_Te_readBinding 6 (some .int) ∈ wG := wG_tb 220 rfl rfl
theorem wd_221 : Cond.methodLink gC_Te 71 y_Te_readName ∈ wG := wG_tb 221 rfl rfl
theorem wd_223 : Cond.instanceMethod y_Te_readName ∈ wG := wG_tb 223 rfl rfl
theorem wd_224 : Cond.code y_Te_readName c_Te_readName 3 (some .int) ∈ wG := wG_tb 224 rfl rfl
theorem wd_226 : Cond.static y_B_isName ∈ wG := wG_tb 226 rfl rfl
theorem wd_227 : Cond.code y_B_isName c_B_isName 1 (some .boolean) ∈ wG := wG_tb 227 rfl rfl
theorem wd_228 : Cond.methodLink gC_Te 74 y_Te_readMatch ∈ wG := wG_tb 228 rfl rfl
theorem wd_230 : Cond.instanceMethod y_Te_readMatch ∈ wG := wG_tb 230 rfl rfl
theorem wd_231 : Cond.code y_Te_readMatch c_Te_readMatch 6 (some .int) ∈ wG := wG_tb 231 rfl rfl
theorem wd_233 : Cond.static y_B_isDigit ∈ wG := wG_tb 233 rfl rfl
theorem wd_234 : Cond.code y_B_isDigit c_B_isDigit 1 (some .boolean) ∈ wG := wG_tb 234 rfl rfl
theorem wd_235 : Cond.methodLink gC_Te 77 y_Te_readLeaf ∈ wG := wG_tb 235 rfl rfl
theorem wd_237 : Cond.instanceMethod y_Te_readLeaf ∈ wG := wG_tb 237 rfl rfl
theorem wd_238 : Cond.code y_Te_readLeaf c_Te_readLeaf 4 (some .int) ∈ wG := wG_tb 238 rfl rfl
theorem wd_240 : Cond.static y_B_hasBit ∈ wG := wG_tb 240 rfl rfl
theorem wd_241 : Cond.code y_B_hasBit c_B_hasBit 2 (some .boolean) ∈ wG := wG_tb 241 rfl rfl
theorem wd_242 : Cond.methodLink gC_B 67 y_B_follow ∈ wG := wG_tb 242 rfl rfl
theorem wd_244 : Cond.instanceMethod y_B_follow ∈ wG := wG_tb 244 rfl rfl
theorem wd_245 : Cond.code y_B_follow c_B_follow 3 none ∈ wG := wG_tb 245 rfl rfl
theorem wd_246 : Cond.methodLink gC_B 115 y_B_findDefiners ∈ wG := wG_tb 246 rfl rfl
theorem wd_248 : Cond.instanceMethod y_B_findDefiners ∈ wG := wG_tb 248 rfl rfl
theorem wd_249 : Cond.code y_B_findDefiners c_B_findDefiners 2 none ∈ wG := wG_tb 249 rfl rfl
theorem wd_250 : Cond.methodLink gC_B 71 y_Ce_isEmpty ∈ wG := wG_tb 250 rfl rfl
theorem wd_251 : Cond.methodLink gC_B 118 y_B_findWays ∈ wG := wG_tb 251 rfl rfl
theorem wd_253 : Cond.instanceMethod y_B_findWays ∈ wG := wG_tb 253 rfl rfl
theorem wd_254 : Cond.code y_B_findWays c_B_findWays 3 none ∈ wG := wG_tb 254 rfl rfl
theorem wd_255 : Cond.methodLink gC_B 134 y_Te_isFunction ∈ wG := wG_tb 255 rfl rfl
theorem wd_256 : Cond.instanceMethod y_Te_isFunction ∈ wG := wG_tb 256 rfl rfl
theorem wd_257 : Cond.selects gC_Te y_Te_isFunction y_Te_isFunction ∈ wG := wG_tb 257 rfl rfl
theorem wd_258 : Cond.code y_Te_isFunction c_Te_isFunction 1 (some .boolean) ∈ wG := wG_tb 258 rfl rfl
theorem wd_259 : Cond.methodLink gC_B 137 y_B_othersUsedBy ∈ wG := wG_tb 259 rfl rfl
theorem wd_261 : Cond.instanceMethod y_B_othersUsedBy ∈ wG := wG_tb 261 rfl rfl
theorem wd_262 : Cond.code y_B_othersUsedBy c_B_othersUsedBy 2 (some .int) ∈ wG := wG_tb 262 rfl rfl
theorem wd_263 : Cond.methodLink gC_B 131 y_B_cellsDefining ∈ wG := wG_tb 263 rfl rfl
theorem wd_265 : Cond.instanceMethod y_B_cellsDefining ∈ wG := wG_tb 265 rfl rfl
theorem wd_266 : Cond.code y_B_cellsDefining c_B_cellsDefining 4 (some .int) ∈ wG := wG_tb 266 rfl rfl
theorem wd_267 : Cond.methodLink gC_B 140 y_B_hasBit ∈ wG := wG_tb 267 rfl rfl
theorem wd_268 : Cond.methodLink gC_B 121 y_B_faultOf ∈ wG := wG_tb 268 rfl rfl
theorem wd_270 : Cond.instanceMethod y_B_faultOf ∈ wG := wG_tb 270 rfl rfl
theorem wd_271 : Cond.code y_B_faultOf c_B_faultOf 3 (some .int) ∈ wG := wG_tb 271 rfl rfl
theorem wd_272 : Cond.methodLink gC_B 147 y_B_usesMissingName ∈ wG := wG_tb 272 rfl rfl
theorem wd_274 : Cond.instanceMethod y_B_usesMissingName ∈ wG := wG_tb 274 rfl rfl
theorem wd_275 : Cond.code y_B_usesMissingName c_B_usesMissingName 3 (some .boolean) ∈ wG := wG_tb 275 rfl rfl
theorem wd_276 : Cond.methodLink gC_B 128 y_B_spreadStale ∈ wG := wG_tb 276 rfl rfl
theorem wd_278 : Cond.instanceMethod y_B_spreadStale ∈ wG := wG_tb 278 rfl rfl
theorem wd_279 : Cond.code y_B_spreadStale c_B_spreadStale 5 none ∈ wG := wG_tb 279 rfl rfl
theorem wd_280 : Cond.methodLink gC_B 151 y_B_makeUsersStale ∈ wG := wG_tb 280 rfl rfl
theorem wd_282 : Cond.instanceMethod y_B_makeUsersStale ∈ wG := wG_tb 282 rfl rfl
theorem wd_283 : Cond.code y_B_makeUsersStale c_B_makeUsersStale 4 (some .int) ∈ wG := wG_tb 283 rfl rfl
theorem wd_285 : Cond.instanceMethod y_B_remove ∈ wG := wG_tb 285 rfl rfl
theorem wd_286 : Cond.selects gC_B y_B_remove y_B_remove ∈ wG := wG_tb 286 rfl rfl
theorem wd_287 : Cond.code y_B_remove c_B_remove 3 (some .boolean) ∈ wG := wG_tb 287 rfl rfl
theorem wd_288 : Cond.methodLink gC_B 75 y_Ce_clear ∈ wG := wG_tb 288 rfl rfl
theorem wd_289 : Cond.instanceMethod y_Ce_clear ∈ wG := wG_tb 289 rfl rfl
theorem wd_290 : Cond.selects gC_Ce y_Ce_clear y_Ce_clear ∈ wG := wG_tb 290 rfl rfl
theorem wd_291 : Cond.code y_Ce_clear c_Ce_clear 1 none ∈ wG := wG_tb 291 rfl rfl
theorem wd_292 : Cond.methodLink gC_Ce 41 y_Te_clear ∈ wG := wG_tb 292 rfl rfl
theorem wd_293 : Cond.instanceMethod y_Te_clear ∈ wG := wG_tb 293 rfl rfl
theorem wd_294 : Cond.selects gC_Te y_Te_clear y_Te_clear ∈ wG := wG_tb 294 rfl rfl
theorem wd_295 : Cond.code y_Te_clear c_Te_clear 1 none ∈ wG := wG_tb 295 rfl rfl
theorem wd_297 : Cond.instanceMethod y_B_work ∈ wG := wG_tb 297 rfl rfl
theorem wd_298 : Cond.selects gC_B y_B_work y_B_work ∈ wG := wG_tb 298 rfl rfl
theorem wd_299 : Cond.code y_B_work c_B_work 4 (some .int) ∈ wG := wG_tb 299 rfl rfl
theorem wd_300 : Cond.methodLink gC_B 78 y_B_nextToWorkOn ∈ wG := wG_tb 300 rfl rfl
set_option maxRecDepth 20000 in
theorem wd_302 : Cond.instanceMethod y_B_nextToWorkOn ∈ wG := wG_tb 302 rfl rfl
set_option maxRecDepth 20000 in
theorem wd_303 : Cond.code y_B_nextToWorkOn c_B_nextToWorkOn 4 (some .int) ∈ wG := wG_tb 303 rfl rfl
set_option maxRecDepth 20000 in
theorem wd_304 : Cond.methodLink gC_B 154 y_B_staleCells ∈ wG := wG_tb 304 rfl rfl
set_option maxRecDepth 20000 in
theorem wd_306 : Cond.instanceMethod y_B_staleCells ∈ wG := wG_tb 306 rfl rfl
set_option maxRecDepth 20000 in
theorem wd_307 : Cond.code y_B_staleCells c_B_staleCells 3 (some .int) ∈ wG := wG_tb 307 rfl rfl
set_option maxRecDepth 20000 in
theorem wd_308 : Cond.methodLink gC_B 81 y_B_workOn ∈ wG := wG_tb 308 rfl rfl
set_option maxRecDepth 20000 in
theorem wd_310 : Cond.instanceMethod y_B_workOn ∈ wG := wG_tb 310 rfl rfl
set_option maxRecDepth 20000 in
theorem wd_311 : Cond.code y_B_workOn c_B_workOn 4 none ∈ wG := wG_tb 311 rfl rfl
set_option maxRecDepth 20000 in
theorem wd_312 : Cond.methodLink gC_B 160 y_B_usableCells ∈ wG := wG_tb 312 rfl rfl
set_option maxRecDepth 20000 in
theorem wd_314 : Cond.instanceMethod y_B_usableCells ∈ wG := wG_tb 314 rfl rfl
set_option maxRecDepth 20000 in
theorem wd_315 : Cond.code y_B_usableCells c_B_usableCells 3 (some .int) ∈ wG := wG_tb 315 rfl rfl
set_option maxRecDepth 20000 in
theorem wd_316 : Cond.methodLink gC_B 157 y_Ce_isUsable ∈ wG := wG_tb 316 rfl rfl
set_option maxRecDepth 20000 in
theorem wd_317 : Cond.instanceMethod y_Ce_isUsable ∈ wG := wG_tb 317 rfl rfl
set_option maxRecDepth 20000 in
theorem wd_318 : Cond.selects gC_Ce y_Ce_isUsable y_Ce_isUsable ∈ wG := wG_tb 318 rfl rfl
set_option maxRecDepth 20000 in
theorem wd_319 : Cond.code y_Ce_isUsable c_Ce_isUsable 2 (some .boolean) ∈ wG := wG_tb 319 rfl rfl
set_option maxRecDepth 20000 in
theorem wd_320 : Cond.methodLink gC_Ce 48 y_Ce_shown ∈ wG := wG_tb 320 rfl rfl
set_option maxRecDepth 20000 in
theorem wd_321 : Cond.instanceMethod y_Ce_shown ∈ wG := wG_tb 321 rfl rfl
set_option maxRecDepth 20000 in
theorem wd_322 : Cond.selects gC_Ce y_Ce_shown y_Ce_shown ∈ wG := wG_tb 322 rfl rfl
set_option maxRecDepth 20000 in
theorem wd_323 : Cond.code y_Ce_shown c_Ce_shown 1 (some .int) ∈ wG := wG_tb 323 rfl rfl
set_option maxRecDepth 20000 in
theorem wd_324 : Cond.methodLink gC_B 163 y_Ty_ofText ∈ wG := wG_tb 324 rfl rfl
set_option maxRecDepth 20000 in
theorem wd_325 : Cond.static y_Ty_ofText ∈ wG := wG_tb 325 rfl rfl
set_option maxRecDepth 20000 in
theorem wd_326 : Cond.code y_Ty_ofText c_Ty_ofText 3 (some .int) ∈ wG := wG_tb 326 rfl rfl
set_option maxRecDepth 20000 in
theorem wd_327 : Cond.methodLink gC_Ty 15 y_Ty_ofExpression ∈ wG := wG_tb 327 rfl rfl
set_option maxRecDepth 20000 in
theorem wd_328 : Cond.static y_Ty_ofExpression ∈ wG := wG_tb 328 rfl rfl
set_option maxRecDepth 20000 in
theorem wd_329 : Cond.code y_Ty_ofExpression c_Ty_ofExpression 4 (some .int) ∈ wG := wG_tb 329 rfl rfl
set_option maxRecDepth 20000 in
theorem wd_330 : Cond.methodLink gC_Ty 25 y_Te_signAt ∈ wG := wG_tb 330 rfl rfl
set_option maxRecDepth 20000 in
theorem wd_331 : Cond.methodLink gC_Ty 29 y_Ty_areBoth ∈ wG := wG_tb 331 rfl rfl
set_option maxRecDepth 20000 in
theorem wd_332 : Cond.static y_Ty_areBoth ∈ wG := wG_tb 332 rfl rfl
set_option maxRecDepth 20000 in
theorem wd_333 : Cond.code y_Ty_areBoth c_Ty_areBoth 6 (some .boolean) ∈ wG := wG_tb 333 rfl rfl
set_option maxRecDepth 20000 in
theorem wd_334 : Cond.methodLink gC_Ty 49 y_Te_endOf ∈ wG := wG_tb 334 rfl rfl
set_option maxRecDepth 20000 in
theorem wd_335 : Cond.instanceMethod y_Te_endOf ∈ wG := wG_tb 335 rfl rfl
set_option maxRecDepth 20000 in
theorem wd_336 : Cond.selects gC_Te y_Te_endOf y_Te_endOf ∈ wG := wG_tb 336 rfl rfl
set_option maxRecDepth 20000 in
theorem wd_337 : Cond.code y_Te_endOf c_Te_endOf 2 (some .int) ∈ wG := wG_tb 337 rfl rfl
set_option maxRecDepth 20000 in
theorem wd_338 : Cond.methodLink gC_Ty 33 y_Ty_ofChoice ∈ wG := wG_tb 338 rfl rfl
set_option maxRecDepth 20000 in
theorem wd_339 : Cond.static y_Ty_ofChoice ∈ wG := wG_tb 339 rfl rfl
set_option maxRecDepth 20000 in
theorem wd_340 : Cond.code y_Ty_ofChoice c_Ty_ofChoice 7 (some .int) ∈ wG := wG_tb 340 rfl rfl
set_option maxRecDepth 20000 in
theorem wd_341 : Cond.methodLink gC_Ty 36 y_Ty_ofBinding ∈ wG := wG_tb 341 rfl rfl
set_option maxRecDepth 20000 in
theorem wd_342 : Cond.static y_Ty_ofBinding ∈ wG := wG_tb 342 rfl rfl
set_option maxRecDepth 20000 in
theorem wd_343 : Cond.code y_Ty_ofBinding c_Ty_ofBinding 5 (some .int) ∈ wG := wG_tb 343 rfl rfl
set_option maxRecDepth 20000 in
theorem wd_344 : Cond.methodLink gC_Ty 39 y_Ty_ofCall ∈ wG := wG_tb 344 rfl rfl
set_option maxRecDepth 20000 in
theorem wd_345 : Cond.static y_Ty_ofCall ∈ wG := wG_tb 345 rfl rfl
set_option maxRecDepth 20000 in
theorem wd_346 : Cond.code y_Ty_ofCall c_Ty_ofCall 5 (some .int) ∈ wG := wG_tb 346 rfl rfl
set_option maxRecDepth 20000 in
theorem wd_348 : Cond.static y_B_definerOf ∈ wG := wG_tb 348 rfl rfl
set_option maxRecDepth 20000 in
theorem wd_349 : Cond.code y_B_definerOf c_B_definerOf 2 (some (.object "CellBook$Cell")) ∈ wG := wG_tb 349 rfl rfl
set_option maxRecDepth 20000 in
theorem wd_350 : Cond.methodLink gC_B 111 y_B_isName ∈ wG := wG_tb 350 rfl rfl
set_option maxRecDepth 20000 in
theorem wd_351 : Cond.methodLink gC_Ty 21 y_Te_isFunction ∈ wG := wG_tb 351 rfl rfl
set_option maxRecDepth 20000 in
theorem wd_352 : Cond.methodLink gC_Ty 42 y_Ty_ofMatch ∈ wG := wG_tb 352 rfl rfl
set_option maxRecDepth 20000 in
theorem wd_353 : Cond.static y_Ty_ofMatch ∈ wG := wG_tb 353 rfl rfl
set_option maxRecDepth 20000 in
theorem wd_354 : Cond.code y_Ty_ofMatch c_Ty_ofMatch 6 (some .int) ∈ wG := wG_tb 354 rfl rfl
set_option maxRecDepth 20000 in
theorem wd_355 : Cond.methodLink gC_Ty 45 y_Ty_ofLeaf ∈ wG := wG_tb 355 rfl rfl
set_option maxRecDepth 20000 in
theorem wd_356 : Cond.static y_Ty_ofLeaf ∈ wG := wG_tb 356 rfl rfl
set_option maxRecDepth 20000 in
theorem wd_357 : Cond.code y_Ty_ofLeaf c_Ty_ofLeaf 3 (some .int) ∈ wG := wG_tb 357 rfl rfl
set_option maxRecDepth 20000 in
theorem wd_359 : Cond.methodLink gC_B 169 y_Ev_run ∈ wG := wG_tb 359 rfl rfl
set_option maxRecDepth 20000 in
theorem wd_360 : Cond.instanceMethod y_Ev_run ∈ wG := wG_tb 360 rfl rfl
set_option maxRecDepth 20000 in
theorem wd_361 : Cond.selects gC_Ev y_Ev_run y_Ev_run ∈ wG := wG_tb 361 rfl rfl
set_option maxRecDepth 20000 in
theorem wd_362 : Cond.code y_Ev_run c_Ev_run 4 none ∈ wG := wG_tb 362 rfl rfl
set_option maxRecDepth 20000 in
theorem wd_363 : Cond.methodLink gC_Ev 46 y_Ev_ofExpression ∈ wG := wG_tb 363 rfl rfl
set_option maxRecDepth 20000 in
theorem wd_365 : Cond.instanceMethod y_Ev_ofExpression ∈ wG := wG_tb 365 rfl rfl
set_option maxRecDepth 20000 in
theorem wd_366 : Cond.code y_Ev_ofExpression c_Ev_ofExpression 4 (some .int) ∈ wG := wG_tb 366 rfl rfl
set_option maxRecDepth 20000 in
theorem wd_367 : Cond.methodLink gC_Ev 66 y_Ev_fail ∈ wG := wG_tb 367 rfl rfl
set_option maxRecDepth 20000 in
theorem wd_369 : Cond.instanceMethod y_Ev_fail ∈ wG := wG_tb 369 rfl rfl
set_option maxRecDepth 20000 in
theorem wd_370 : Cond.code y_Ev_fail c_Ev_fail 2 (some .int) ∈ wG := wG_tb 370 rfl rfl
set_option maxRecDepth 20000 in
theorem wd_371 : Cond.methodLink gC_Ev 70 y_Te_signAt ∈ wG := wG_tb 371 rfl rfl
set_option maxRecDepth 20000 in
theorem wd_372 : Cond.methodLink gC_Ev 74 y_Ev_ofBoth ∈ wG := wG_tb 372 rfl rfl
set_option maxRecDepth 20000 in
theorem wd_374 : Cond.instanceMethod y_Ev_ofBoth ∈ wG := wG_tb 374 rfl rfl
set_option maxRecDepth 20000 in
theorem wd_375 : Cond.code y_Ev_ofBoth c_Ev_ofBoth 5 (some .int) ∈ wG := wG_tb 375 rfl rfl
set_option maxRecDepth 20000 in
theorem wd_376 : Cond.methodLink gC_Ev 56 y_Ev_hasFailed ∈ wG := wG_tb 376 rfl rfl
set_option maxRecDepth 20000 in
theorem wd_378 : Cond.instanceMethod y_Ev_hasFailed ∈ wG := wG_tb 378 rfl rfl
set_option maxRecDepth 20000 in
theorem wd_379 : Cond.code y_Ev_hasFailed c_Ev_hasFailed 1 (some .boolean) ∈ wG := wG_tb 379 rfl rfl
set_option maxRecDepth 20000 in
theorem wd_380 : Cond.methodLink gC_Ev 111 y_Te_endOf ∈ wG := wG_tb 380 rfl rfl
set_option maxRecDepth 20000 in
theorem wd_381 : Cond.methodLink gC_Ev 77 y_Ev_ofChoice ∈ wG := wG_tb 381 rfl rfl
set_option maxRecDepth 20000 in
theorem wd_383 : Cond.instanceMethod y_Ev_ofChoice ∈ wG := wG_tb 383 rfl rfl
set_option maxRecDepth 20000 in
theorem wd_384 : Cond.code y_Ev_ofChoice c_Ev_ofChoice 6 (some .int) ∈ wG := wG_tb 384 rfl rfl
set_option maxRecDepth 20000 in
theorem wd_385 : Cond.methodLink gC_Ev 80 y_Ev_ofBinding ∈ wG := wG_tb 385 rfl rfl
set_option maxRecDepth 20000 in
theorem wd_387 : Cond.instanceMethod y_Ev_ofBinding ∈ wG := wG_tb 387 rfl rfl
set_option maxRecDepth 20000 in
theorem wd_388 : Cond.code y_Ev_ofBinding c_Ev_ofBinding 8 (some .int) ∈ wG := wG_tb 388 rfl rfl
set_option maxRecDepth 20000 in
theorem wd_389 : Cond.methodLink gC_Ev 118 y_Te_localAt ∈ wG := wG_tb 389 rfl rfl
set_option maxRecDepth 20000 in
theorem wd_390 : Cond.methodLink gC_Ev 83 y_Ev_ofCall ∈ wG := wG_tb 390 rfl rfl
set_option maxRecDepth 20000 in
theorem wd_392 : Cond.instanceMethod y_Ev_ofCall ∈ wG := wG_tb 392 rfl rfl
set_option maxRecDepth 20000 in
theorem wd_393 : Cond.code y_Ev_ofCall c_Ev_ofCall 7 (some .int) ∈ wG := wG_tb 393 rfl rfl
set_option maxRecDepth 20000 in
theorem wd_395 : Cond.methodLink gC_Ev 86 y_Ev_ofMatch ∈ wG := wG_tb 395 rfl rfl
set_option maxRecDepth 20000 in
theorem wd_397 : Cond.instanceMethod y_Ev_ofMatch ∈ wG := wG_tb 397 rfl rfl
set_option maxRecDepth 20000 in
theorem wd_398 : Cond.code y_Ev_ofMatch c_Ev_ofMatch 7 (some .int) ∈ wG := wG_tb 398 rfl rfl
set_option maxRecDepth 20000 in
theorem wd_399 : Cond.methodLink gC_Ev 89 y_Ev_ofPair ∈ wG := wG_tb 399 rfl rfl
set_option maxRecDepth 20000 in
theorem wd_401 : Cond.instanceMethod y_Ev_ofPair ∈ wG := wG_tb 401 rfl rfl
set_option maxRecDepth 20000 in
theorem wd_402 : Cond.code y_Ev_ofPair c_Ev_ofPair 6 (some .int) ∈ wG := wG_tb 402 rfl rfl
set_option maxRecDepth 20000 in
theorem wd_403 : Cond.methodLink gC_Ev 114 y_Ev_combine ∈ wG := wG_tb 403 rfl rfl
set_option maxRecDepth 20000 in
theorem wd_405 : Cond.instanceMethod y_Ev_combine ∈ wG := wG_tb 405 rfl rfl
set_option maxRecDepth 20000 in
theorem wd_406 : Cond.code y_Ev_combine c_Ev_combine 4 (some .int) ∈ wG := wG_tb 406 rfl rfl
set_option maxRecDepth 20000 in
theorem wd_407 : Cond.methodLink gC_Ev 92 y_Ev_ofLeaf ∈ wG := wG_tb 407 rfl rfl
set_option maxRecDepth 20000 in
theorem wd_409 : Cond.instanceMethod y_Ev_ofLeaf ∈ wG := wG_tb 409 rfl rfl
set_option maxRecDepth 20000 in
theorem wd_410 : Cond.code y_Ev_ofLeaf c_Ev_ofLeaf 5 (some .int) ∈ wG := wG_tb 410 rfl rfl
set_option maxRecDepth 20000 in
theorem wd_414 : Cond.instanceMethod y_B_cancel ∈ wG := wG_tb 414 rfl rfl
set_option maxRecDepth 20000 in
theorem wd_415 : Cond.selects gC_B y_B_cancel y_B_cancel ∈ wG := wG_tb 415 rfl rfl
set_option maxRecDepth 20000 in
theorem wd_416 : Cond.code y_B_cancel c_B_cancel 2 (some .boolean) ∈ wG := wG_tb 416 rfl rfl
set_option maxRecDepth 20000 in
theorem wd_417 : Cond.methodLink gC_B 84 y_Ce_shown ∈ wG := wG_tb 417 rfl rfl
set_option maxRecDepth 20000 in
theorem wd_419 : Cond.instanceMethod y_B_status ∈ wG := wG_tb 419 rfl rfl
set_option maxRecDepth 20000 in
theorem wd_420 : Cond.selects gC_B y_B_status y_B_status ∈ wG := wG_tb 420 rfl rfl
set_option maxRecDepth 20000 in
theorem wd_421 : Cond.code y_B_status c_B_status 2 (some .int) ∈ wG := wG_tb 421 rfl rfl
set_option maxRecDepth 20000 in
theorem wd_423 : Cond.instanceMethod y_B_value ∈ wG := wG_tb 423 rfl rfl
set_option maxRecDepth 20000 in
theorem wd_424 : Cond.selects gC_B y_B_value y_B_value ∈ wG := wG_tb 424 rfl rfl
set_option maxRecDepth 20000 in
theorem wd_425 : Cond.code y_B_value c_B_value 2 (some .int) ∈ wG := wG_tb 425 rfl rfl
set_option maxRecDepth 20000 in
theorem wd_427 : Cond.instanceMethod y_B_kind ∈ wG := wG_tb 427 rfl rfl
set_option maxRecDepth 20000 in
theorem wd_428 : Cond.selects gC_B y_B_kind y_B_kind ∈ wG := wG_tb 428 rfl rfl
set_option maxRecDepth 20000 in
theorem wd_429 : Cond.code y_B_kind c_B_kind 2 (some .int) ∈ wG := wG_tb 429 rfl rfl
set_option maxRecDepth 20000 in
theorem wd_431 : Cond.instanceMethod y_B_uses ∈ wG := wG_tb 431 rfl rfl
set_option maxRecDepth 20000 in
theorem wd_432 : Cond.selects gC_B y_B_uses y_B_uses ∈ wG := wG_tb 432 rfl rfl
set_option maxRecDepth 20000 in
theorem wd_433 : Cond.code y_B_uses c_B_uses 2 (some .int) ∈ wG := wG_tb 433 rfl rfl
set_option maxRecDepth 20000 in
theorem wd_435 : Cond.instanceMethod y_B_runs ∈ wG := wG_tb 435 rfl rfl
set_option maxRecDepth 20000 in
theorem wd_436 : Cond.selects gC_B y_B_runs y_B_runs ∈ wG := wG_tb 436 rfl rfl
set_option maxRecDepth 20000 in
theorem wd_437 : Cond.code y_B_runs c_B_runs 2 (some .int) ∈ wG := wG_tb 437 rfl rfl
set_option maxRecDepth 20000 in
theorem wd_439 : Cond.instanceMethod y_B_steps ∈ wG := wG_tb 439 rfl rfl
set_option maxRecDepth 20000 in
theorem wd_440 : Cond.selects gC_B y_B_steps y_B_steps ∈ wG := wG_tb 440 rfl rfl
set_option maxRecDepth 20000 in
theorem wd_441 : Cond.code y_B_steps c_B_steps 1 (some .int) ∈ wG := wG_tb 441 rfl rfl
set_option maxRecDepth 20000 in
theorem wd_443 : Cond.instantiable gC_Mo 31 ∈ wG := wG_tb 443 rfl rfl
set_option maxRecDepth 20000 in
theorem wd_445 : Cond.instanceMethod y_Mo_init ∈ wG := wG_tb 445 rfl rfl
set_option maxRecDepth 20000 in
theorem wd_446 : Cond.code y_Mo_init c_Mo_init 2 none ∈ wG := wG_tb 446 rfl rfl
set_option maxRecDepth 20000 in
theorem wd_448 : Cond.fieldLink gC_Mo 7 (gT_Mo 0).1 (gT_Mo 0).2.1 (gT_Mo 0).2.2.1 ∈ wG := wG_tb 448 rfl rfl
set_option maxRecDepth 20000 in
theorem wd_449 : Cond.fieldLink gC_Mo 75 (gT_Mo 1).1 (gT_Mo 1).2.1 (gT_Mo 1).2.2.1 ∈ wG := wG_tb 449 rfl rfl
set_option maxRecDepth 20000 in
theorem wd_450 : Cond.fieldLink gC_Mo 13 (gT_Mo 2).1 (gT_Mo 2).2.1 (gT_Mo 2).2.2.1 ∈ wG := wG_tb 450 rfl rfl
set_option maxRecDepth 20000 in
theorem wd_451 : Cond.fieldLink gC_Mo 16 (gT_Mo 3).1 (gT_Mo 3).2.1 (gT_Mo 3).2.2.1 ∈ wG := wG_tb 451 rfl rfl
set_option maxRecDepth 20000 in
theorem wd_452 : Cond.fieldLink gC_Mo 20 (gT_Mo 4).1 (gT_Mo 4).2.1 (gT_Mo 4).2.2.1 ∈ wG := wG_tb 452 rfl rfl
set_option maxRecDepth 20000 in
theorem wd_453 : Cond.fieldLink gC_Mo 23 (gT_Mo 5).1 (gT_Mo 5).2.1 (gT_Mo 5).2.2.1 ∈ wG := wG_tb 453 rfl rfl
set_option maxRecDepth 20000 in
theorem wd_454 : Cond.fieldLink gC_Mo 26 (gT_Mo 6).1 (gT_Mo 6).2.1 (gT_Mo 6).2.2.1 ∈ wG := wG_tb 454 rfl rfl
set_option maxRecDepth 20000 in
theorem wd_455 : Cond.fieldLink gC_Mo 30 (gT_Mo 7).1 (gT_Mo 7).2.1 (gT_Mo 7).2.2.1 ∈ wG := wG_tb 455 rfl rfl
set_option maxRecDepth 20000 in
theorem wd_456 : Cond.fieldLink gC_Mo 33 (gT_Mo 8).1 (gT_Mo 8).2.1 (gT_Mo 8).2.2.1 ∈ wG := wG_tb 456 rfl rfl
set_option maxRecDepth 20000 in
theorem wd_457 : Cond.fieldLink gC_Mo 36 (gT_Mo 9).1 (gT_Mo 9).2.1 (gT_Mo 9).2.2.1 ∈ wG := wG_tb 457 rfl rfl
set_option maxRecDepth 20000 in
theorem wd_458 : Cond.fieldLink gC_Mo 39 (gT_Mo 10).1 (gT_Mo 10).2.1 (gT_Mo 10).2.2.1 ∈ wG := wG_tb 458 rfl rfl
set_option maxRecDepth 20000 in
theorem wd_459 : Cond.fieldLink gC_Mo 42 (gT_Mo 11).1 (gT_Mo 11).2.1 (gT_Mo 11).2.2.1 ∈ wG := wG_tb 459 rfl rfl
set_option maxRecDepth 20000 in
theorem wd_460 : Cond.fieldLink gC_Mo 45 (gT_Mo 12).1 (gT_Mo 12).2.1 (gT_Mo 12).2.2.1 ∈ wG := wG_tb 460 rfl rfl
set_option maxRecDepth 20000 in
theorem wd_461 : Cond.fieldLink gC_Mo 48 (gT_Mo 13).1 (gT_Mo 13).2.1 (gT_Mo 13).2.2.1 ∈ wG := wG_tb 461 rfl rfl
set_option maxRecDepth 20000 in
theorem wd_462 : Cond.fieldLink gC_Mo 179 (gT_Mo 14).1 (gT_Mo 14).2.1 (gT_Mo 14).2.2.1 ∈ wG := wG_tb 462 rfl rfl
set_option maxRecDepth 20000 in
theorem wd_463 : Cond.fieldLink gC_Mo 51 (gT_Mo 15).1 (gT_Mo 15).2.1 (gT_Mo 15).2.2.1 ∈ wG := wG_tb 463 rfl rfl
set_option maxRecDepth 20000 in
theorem wd_464 : Cond.fieldLink gC_Mo 92 (gT_Mo 16).1 (gT_Mo 16).2.1 (gT_Mo 16).2.2.1 ∈ wG := wG_tb 464 rfl rfl
set_option maxRecDepth 20000 in
theorem wd_465 : Cond.fieldLink gC_Mo 85 (gT_Mo 17).1 (gT_Mo 17).2.1 (gT_Mo 17).2.2.1 ∈ wG := wG_tb 465 rfl rfl
set_option maxRecDepth 20000 in
theorem wd_466 : Cond.fieldLink gC_Mo 54 (gT_Mo 18).1 (gT_Mo 18).2.1 (gT_Mo 18).2.2.1 ∈ wG := wG_tb 466 rfl rfl
set_option maxRecDepth 20000 in
theorem wd_467 : Cond.fieldLink gC_Mo 57 (gT_Mo 19).1 (gT_Mo 19).2.1 (gT_Mo 19).2.2.1 ∈ wG := wG_tb 467 rfl rfl
set_option maxRecDepth 20000 in
theorem wd_468 : Cond.fieldLink gC_Mo 151 (gT_Mo 20).1 (gT_Mo 20).2.1 (gT_Mo 20).2.2.1 ∈ wG := wG_tb 468 rfl rfl
set_option maxRecDepth 20000 in
theorem wd_469 : Cond.fieldLink gC_Mo 60 (gT_Mo 21).1 (gT_Mo 21).2.1 (gT_Mo 21).2.2.1 ∈ wG := wG_tb 469 rfl rfl
set_option maxRecDepth 20000 in
theorem wd_470 : Cond.fieldLink gC_Mo 63 (gT_Mo 22).1 (gT_Mo 22).2.1 (gT_Mo 22).2.2.1 ∈ wG := wG_tb 470 rfl rfl
set_option maxRecDepth 20000 in
theorem wd_471 : Cond.fieldLink gC_Mo 66 (gT_Mo 23).1 (gT_Mo 23).2.1 (gT_Mo 23).2.2.1 ∈ wG := wG_tb 471 rfl rfl
set_option maxRecDepth 20000 in
theorem wd_472 : Cond.fieldLink gC_Mo 69 (gT_Mo 24).1 (gT_Mo 24).2.1 (gT_Mo 24).2.2.1 ∈ wG := wG_tb 472 rfl rfl
set_option maxRecDepth 20000 in
theorem wd_473 : Cond.fieldLink gC_Mo 182 (gT_Mo 25).1 (gT_Mo 25).2.1 (gT_Mo 25).2.2.1 ∈ wG := wG_tb 473 rfl rfl
set_option maxRecDepth 20000 in
theorem wd_474 : Cond.fieldLink gC_Mo 72 (gT_Mo 26).1 (gT_Mo 26).2.1 (gT_Mo 26).2.2.1 ∈ wG := wG_tb 474 rfl rfl
set_option maxRecDepth 20000 in
theorem wd_475 : Cond.fieldLink gC_Mo 191 (gT_Mo 27).1 (gT_Mo 27).2.1 (gT_Mo 27).2.2.1 ∈ wG := wG_tb 475 rfl rfl
set_option maxRecDepth 20000 in
theorem wd_476 : Cond.fieldLink gC_Mo 173 (gT_Mo 28).1 (gT_Mo 28).2.1 (gT_Mo 28).2.2.1 ∈ wG := wG_tb 476 rfl rfl
set_option maxRecDepth 20000 in
theorem wd_477 : Cond.fieldLink gC_Mo 185 (gT_Mo 29).1 (gT_Mo 29).2.1 (gT_Mo 29).2.2.1 ∈ wG := wG_tb 477 rfl rfl
set_option maxRecDepth 20000 in
theorem wd_478 : Cond.fieldLink gC_Mo 176 (gT_Mo 30).1 (gT_Mo 30).2.1 (gT_Mo 30).2.2.1 ∈ wG := wG_tb 478 rfl rfl
set_option maxRecDepth 20000 in
theorem wd_544 : Cond.instanceMethod y_Mo_type ∈ wG := wG_tb 544 rfl rfl
set_option maxRecDepth 20000 in
theorem wd_545 : Cond.selects gC_Mo y_Mo_type y_Mo_type ∈ wG := wG_tb 545 rfl rfl
set_option maxRecDepth 20000 in
theorem wd_546 : Cond.code y_Mo_type c_Mo_type 7 (some .int) ∈ wG := wG_tb 546 rfl rfl
set_option maxRecDepth 20000 in
theorem wd_547 : Cond.constantLong "CellBookModel" (79 : Nat) (255 : Int64) ∈ wG := wG_tb 547 rfl rfl
set_option maxRecDepth 20000 in
theorem wd_548 : Cond.constantLong "CellBookModel" (81 : Nat) (33 : Int64) ∈ wG := wG_tb 548 rfl rfl
set_option maxRecDepth 20000 in
theorem wd_549 : Cond.constantLong "CellBookModel" (83 : Nat) (126 : Int64) ∈ wG := wG_tb 549 rfl rfl
set_option maxRecDepth 20000 in
theorem wd_551 : Cond.instanceMethod y_Mo_set ∈ wG := wG_tb 551 rfl rfl
set_option maxRecDepth 20000 in
theorem wd_552 : Cond.selects gC_Mo y_Mo_set y_Mo_set ∈ wG := wG_tb 552 rfl rfl
set_option maxRecDepth 20000 in
theorem wd_553 : Cond.code y_Mo_set c_Mo_set 5 (some .boolean) ∈ wG := wG_tb 553 rfl rfl
set_option maxRecDepth 20000 in
theorem wd_554 : Cond.methodLink gC_Mo 138 y_Mo_isCell ∈ wG := wG_tb 554 rfl rfl
set_option maxRecDepth 20000 in
theorem wd_555 : Cond.static y_Mo_isCell ∈ wG := wG_tb 555 rfl rfl
set_option maxRecDepth 20000 in
theorem wd_556 : Cond.code y_Mo_isCell c_Mo_isCell 1 (some .boolean) ∈ wG := wG_tb 556 rfl rfl
set_option maxRecDepth 20000 in
theorem wd_557 : Cond.methodLink gC_Mo 141 y_Mo_reads ∈ wG := wG_tb 557 rfl rfl
set_option maxRecDepth 20000 in
theorem wd_559 : Cond.instanceMethod y_Mo_reads ∈ wG := wG_tb 559 rfl rfl
set_option maxRecDepth 20000 in
theorem wd_560 : Cond.code y_Mo_reads c_Mo_reads 4 (some .boolean) ∈ wG := wG_tb 560 rfl rfl
set_option maxRecDepth 20000 in
theorem wd_561 : Cond.methodLink gC_Mo 88 y_Mo_charAt ∈ wG := wG_tb 561 rfl rfl
set_option maxRecDepth 20000 in
theorem wd_563 : Cond.instanceMethod y_Mo_charAt ∈ wG := wG_tb 563 rfl rfl
set_option maxRecDepth 20000 in
theorem wd_564 : Cond.code y_Mo_charAt c_Mo_charAt 3 (some .char) ∈ wG := wG_tb 564 rfl rfl
set_option maxRecDepth 20000 in
theorem wd_565 : Cond.methodLink gC_Mo 102 y_Mo_isLocal ∈ wG := wG_tb 565 rfl rfl
set_option maxRecDepth 20000 in
theorem wd_566 : Cond.static y_Mo_isLocal ∈ wG := wG_tb 566 rfl rfl
set_option maxRecDepth 20000 in
theorem wd_567 : Cond.code y_Mo_isLocal c_Mo_isLocal 1 (some .boolean) ∈ wG := wG_tb 567 rfl rfl
set_option maxRecDepth 20000 in
theorem wd_568 : Cond.methodLink gC_Mo 105 y_Mo_come ∈ wG := wG_tb 568 rfl rfl
set_option maxRecDepth 20000 in
theorem wd_570 : Cond.instanceMethod y_Mo_come ∈ wG := wG_tb 570 rfl rfl
set_option maxRecDepth 20000 in
theorem wd_571 : Cond.code y_Mo_come c_Mo_come 2 none ∈ wG := wG_tb 571 rfl rfl
set_option maxRecDepth 20000 in
theorem wd_572 : Cond.methodLink gC_Mo 95 y_Mo_isDigit ∈ wG := wG_tb 572 rfl rfl
set_option maxRecDepth 20000 in
theorem wd_573 : Cond.static y_Mo_isDigit ∈ wG := wG_tb 573 rfl rfl
set_option maxRecDepth 20000 in
theorem wd_574 : Cond.code y_Mo_isDigit c_Mo_isDigit 1 (some .boolean) ∈ wG := wG_tb 574 rfl rfl
set_option maxRecDepth 20000 in
theorem wd_575 : Cond.methodLink gC_Mo 112 y_Mo_readOne ∈ wG := wG_tb 575 rfl rfl
set_option maxRecDepth 20000 in
theorem wd_577 : Cond.instanceMethod y_Mo_readOne ∈ wG := wG_tb 577 rfl rfl
set_option maxRecDepth 20000 in
theorem wd_578 : Cond.code y_Mo_readOne c_Mo_readOne 7 (some .int) ∈ wG := wG_tb 578 rfl rfl
set_option maxRecDepth 20000 in
theorem wd_579 : Cond.methodLink gC_Mo 99 y_Mo_isName ∈ wG := wG_tb 579 rfl rfl
set_option maxRecDepth 20000 in
theorem wd_580 : Cond.static y_Mo_isName ∈ wG := wG_tb 580 rfl rfl
set_option maxRecDepth 20000 in
theorem wd_581 : Cond.code y_Mo_isName c_Mo_isName 1 (some .boolean) ∈ wG := wG_tb 581 rfl rfl
set_option maxRecDepth 20000 in
theorem wd_582 : Cond.methodLink gC_Mo 109 y_Mo_isBinary ∈ wG := wG_tb 582 rfl rfl
set_option maxRecDepth 20000 in
theorem wd_583 : Cond.static y_Mo_isBinary ∈ wG := wG_tb 583 rfl rfl
set_option maxRecDepth 20000 in
theorem wd_584 : Cond.code y_Mo_isBinary c_Mo_isBinary 1 (some .boolean) ∈ wG := wG_tb 584 rfl rfl
set_option maxRecDepth 20000 in
theorem wd_585 : Cond.methodLink gC_Mo 144 y_Mo_findEnds ∈ wG := wG_tb 585 rfl rfl
set_option maxRecDepth 20000 in
theorem wd_587 : Cond.instanceMethod y_Mo_findEnds ∈ wG := wG_tb 587 rfl rfl
set_option maxRecDepth 20000 in
theorem wd_588 : Cond.code y_Mo_findEnds c_Mo_findEnds 7 none ∈ wG := wG_tb 588 rfl rfl
set_option maxRecDepth 20000 in
theorem wd_589 : Cond.methodLink gC_Mo 116 y_Mo_isFunction ∈ wG := wG_tb 589 rfl rfl
set_option maxRecDepth 20000 in
theorem wd_591 : Cond.instanceMethod y_Mo_isFunction ∈ wG := wG_tb 591 rfl rfl
set_option maxRecDepth 20000 in
theorem wd_592 : Cond.code y_Mo_isFunction c_Mo_isFunction 2 (some .boolean) ∈ wG := wG_tb 592 rfl rfl
set_option maxRecDepth 20000 in
theorem wd_593 : Cond.methodLink gC_Mo 120 y_Mo_operands ∈ wG := wG_tb 593 rfl rfl
set_option maxRecDepth 20000 in
theorem wd_594 : Cond.static y_Mo_operands ∈ wG := wG_tb 594 rfl rfl
set_option maxRecDepth 20000 in
theorem wd_595 : Cond.code y_Mo_operands c_Mo_operands 1 (some .int) ∈ wG := wG_tb 595 rfl rfl
set_option maxRecDepth 20000 in
theorem wd_596 : Cond.methodLink gC_Mo 147 y_Mo_becomes ∈ wG := wG_tb 596 rfl rfl
set_option maxRecDepth 20000 in
theorem wd_598 : Cond.instanceMethod y_Mo_becomes ∈ wG := wG_tb 598 rfl rfl
set_option maxRecDepth 20000 in
theorem wd_599 : Cond.code y_Mo_becomes c_Mo_becomes 8 none ∈ wG := wG_tb 599 rfl rfl
set_option maxRecDepth 20000 in
theorem wd_600 : Cond.methodLink gC_Mo 124 y_Mo_isThere ∈ wG := wG_tb 600 rfl rfl
set_option maxRecDepth 20000 in
theorem wd_602 : Cond.instanceMethod y_Mo_isThere ∈ wG := wG_tb 602 rfl rfl
set_option maxRecDepth 20000 in
theorem wd_603 : Cond.code y_Mo_isThere c_Mo_isThere 2 (some .boolean) ∈ wG := wG_tb 603 rfl rfl
set_option maxRecDepth 20000 in
theorem wd_604 : Cond.methodLink gC_Mo 127 y_Mo_needs ∈ wG := wG_tb 604 rfl rfl
set_option maxRecDepth 20000 in
theorem wd_606 : Cond.instanceMethod y_Mo_needs ∈ wG := wG_tb 606 rfl rfl
set_option maxRecDepth 20000 in
theorem wd_607 : Cond.code y_Mo_needs c_Mo_needs 3 (some .boolean) ∈ wG := wG_tb 607 rfl rfl
set_option maxRecDepth 20000 in
theorem wd_609 : Cond.instanceMethod y_Mo_remove ∈ wG := wG_tb 609 rfl rfl
set_option maxRecDepth 20000 in
theorem wd_610 : Cond.selects gC_Mo y_Mo_remove y_Mo_remove ∈ wG := wG_tb 610 rfl rfl
set_option maxRecDepth 20000 in
theorem wd_611 : Cond.code y_Mo_remove c_Mo_remove 3 (some .boolean) ∈ wG := wG_tb 611 rfl rfl
set_option maxRecDepth 20000 in
theorem wd_613 : Cond.instanceMethod y_Mo_work ∈ wG := wG_tb 613 rfl rfl
set_option maxRecDepth 20000 in
theorem wd_614 : Cond.selects gC_Mo y_Mo_work y_Mo_work ∈ wG := wG_tb 614 rfl rfl
set_option maxRecDepth 20000 in
theorem wd_615 : Cond.code y_Mo_work c_Mo_work 3 (some .int) ∈ wG := wG_tb 615 rfl rfl
set_option maxRecDepth 20000 in
theorem wd_616 : Cond.methodLink gC_Mo 236 y_Mo_workOnce ∈ wG := wG_tb 616 rfl rfl
set_option maxRecDepth 20000 in
theorem wd_618 : Cond.instanceMethod y_Mo_workOnce ∈ wG := wG_tb 618 rfl rfl
set_option maxRecDepth 20000 in
theorem wd_619 : Cond.code y_Mo_workOnce c_Mo_workOnce 2 (some .boolean) ∈ wG := wG_tb 619 rfl rfl
set_option maxRecDepth 20000 in
theorem wd_620 : Cond.methodLink gC_Mo 230 y_Mo_isReady ∈ wG := wG_tb 620 rfl rfl
set_option maxRecDepth 20000 in
theorem wd_622 : Cond.instanceMethod y_Mo_isReady ∈ wG := wG_tb 622 rfl rfl
set_option maxRecDepth 20000 in
theorem wd_623 : Cond.code y_Mo_isReady c_Mo_isReady 4 (some .boolean) ∈ wG := wG_tb 623 rfl rfl
set_option maxRecDepth 20000 in
theorem wd_624 : Cond.methodLink gC_Mo 218 y_Mo_fault ∈ wG := wG_tb 624 rfl rfl
set_option maxRecDepth 20000 in
theorem wd_626 : Cond.instanceMethod y_Mo_fault ∈ wG := wG_tb 626 rfl rfl
set_option maxRecDepth 20000 in
theorem wd_627 : Cond.code y_Mo_fault c_Mo_fault 4 (some .int) ∈ wG := wG_tb 627 rfl rfl
set_option maxRecDepth 20000 in
theorem wd_628 : Cond.methodLink gC_Mo 131 y_Mo_definer ∈ wG := wG_tb 628 rfl rfl
set_option maxRecDepth 20000 in
theorem wd_630 : Cond.instanceMethod y_Mo_definer ∈ wG := wG_tb 630 rfl rfl
set_option maxRecDepth 20000 in
theorem wd_631 : Cond.code y_Mo_definer c_Mo_definer 4 (some .int) ∈ wG := wG_tb 631 rfl rfl
set_option maxRecDepth 20000 in
theorem wd_632 : Cond.methodLink gC_Mo 135 y_Mo_cycles ∈ wG := wG_tb 632 rfl rfl
set_option maxRecDepth 20000 in
theorem wd_634 : Cond.instanceMethod y_Mo_cycles ∈ wG := wG_tb 634 rfl rfl
set_option maxRecDepth 20000 in
theorem wd_635 : Cond.code y_Mo_cycles c_Mo_cycles 6 (some .boolean) ∈ wG := wG_tb 635 rfl rfl
set_option maxRecDepth 20000 in
theorem wd_636 : Cond.methodLink gC_Mo 233 y_Mo_workOut ∈ wG := wG_tb 636 rfl rfl
set_option maxRecDepth 20000 in
theorem wd_638 : Cond.instanceMethod y_Mo_workOut ∈ wG := wG_tb 638 rfl rfl
set_option maxRecDepth 20000 in
theorem wd_639 : Cond.code y_Mo_workOut c_Mo_workOut 5 none ∈ wG := wG_tb 639 rfl rfl
set_option maxRecDepth 20000 in
theorem wd_640 : Cond.methodLink gC_Mo 221 y_Mo_blocks ∈ wG := wG_tb 640 rfl rfl
set_option maxRecDepth 20000 in
theorem wd_642 : Cond.instanceMethod y_Mo_blocks ∈ wG := wG_tb 642 rfl rfl
set_option maxRecDepth 20000 in
theorem wd_643 : Cond.code y_Mo_blocks c_Mo_blocks 2 (some .boolean) ∈ wG := wG_tb 643 rfl rfl
set_option maxRecDepth 20000 in
theorem wd_644 : Cond.methodLink gC_Mo 224 y_Mo_typeOf ∈ wG := wG_tb 644 rfl rfl
set_option maxRecDepth 20000 in
theorem wd_646 : Cond.instanceMethod y_Mo_typeOf ∈ wG := wG_tb 646 rfl rfl
set_option maxRecDepth 20000 in
theorem wd_647 : Cond.code y_Mo_typeOf c_Mo_typeOf 7 (some .int) ∈ wG := wG_tb 647 rfl rfl
set_option maxRecDepth 20000 in
theorem wd_648 : Cond.methodLink gC_Mo 161 y_Mo_ownName ∈ wG := wG_tb 648 rfl rfl
set_option maxRecDepth 20000 in
theorem wd_650 : Cond.instanceMethod y_Mo_ownName ∈ wG := wG_tb 650 rfl rfl
set_option maxRecDepth 20000 in
theorem wd_651 : Cond.code y_Mo_ownName c_Mo_ownName 3 (some .boolean) ∈ wG := wG_tb 651 rfl rfl
set_option maxRecDepth 20000 in
theorem wd_652 : Cond.methodLink gC_Mo 164 y_Mo_typeOfName ∈ wG := wG_tb 652 rfl rfl
set_option maxRecDepth 20000 in
theorem wd_654 : Cond.instanceMethod y_Mo_typeOfName ∈ wG := wG_tb 654 rfl rfl
set_option maxRecDepth 20000 in
theorem wd_655 : Cond.code y_Mo_typeOfName c_Mo_typeOfName 3 (some .int) ∈ wG := wG_tb 655 rfl rfl
set_option maxRecDepth 20000 in
theorem wd_656 : Cond.methodLink gC_Mo 167 y_Mo_typeOver ∈ wG := wG_tb 656 rfl rfl
set_option maxRecDepth 20000 in
theorem wd_658 : Cond.instanceMethod y_Mo_typeOver ∈ wG := wG_tb 658 rfl rfl
set_option maxRecDepth 20000 in
theorem wd_659 : Cond.code y_Mo_typeOver c_Mo_typeOver 7 (some .int) ∈ wG := wG_tb 659 rfl rfl
set_option maxRecDepth 20000 in
theorem wd_660 : Cond.methodLink gC_Mo 154 y_Mo_popType ∈ wG := wG_tb 660 rfl rfl
set_option maxRecDepth 20000 in
theorem wd_662 : Cond.instanceMethod y_Mo_popType ∈ wG := wG_tb 662 rfl rfl
set_option maxRecDepth 20000 in
theorem wd_663 : Cond.code y_Mo_popType c_Mo_popType 1 (some .int) ∈ wG := wG_tb 663 rfl rfl
set_option maxRecDepth 20000 in
theorem wd_664 : Cond.methodLink gC_Mo 158 y_Mo_isFunctionName ∈ wG := wG_tb 664 rfl rfl
set_option maxRecDepth 20000 in
theorem wd_666 : Cond.instanceMethod y_Mo_isFunctionName ∈ wG := wG_tb 666 rfl rfl
set_option maxRecDepth 20000 in
theorem wd_667 : Cond.code y_Mo_isFunctionName c_Mo_isFunctionName 4 (some .boolean) ∈ wG := wG_tb 667 rfl rfl
set_option maxRecDepth 20000 in
theorem wd_668 : Cond.methodLink gC_Mo 170 y_Mo_pushType ∈ wG := wG_tb 668 rfl rfl
set_option maxRecDepth 20000 in
theorem wd_670 : Cond.instanceMethod y_Mo_pushType ∈ wG := wG_tb 670 rfl rfl
set_option maxRecDepth 20000 in
theorem wd_671 : Cond.code y_Mo_pushType c_Mo_pushType 2 none ∈ wG := wG_tb 671 rfl rfl
set_option maxRecDepth 20000 in
theorem wd_672 : Cond.methodLink gC_Mo 227 y_Mo_evaluate ∈ wG := wG_tb 672 rfl rfl
set_option maxRecDepth 20000 in
theorem wd_674 : Cond.instanceMethod y_Mo_evaluate ∈ wG := wG_tb 674 rfl rfl
set_option maxRecDepth 20000 in
theorem wd_675 : Cond.code y_Mo_evaluate c_Mo_evaluate 3 none ∈ wG := wG_tb 675 rfl rfl
set_option maxRecDepth 20000 in
theorem wd_676 : Cond.methodLink gC_Mo 194 y_Mo_enter ∈ wG := wG_tb 676 rfl rfl
set_option maxRecDepth 20000 in
theorem wd_678 : Cond.instanceMethod y_Mo_enter ∈ wG := wG_tb 678 rfl rfl
set_option maxRecDepth 20000 in
theorem wd_679 : Cond.code y_Mo_enter c_Mo_enter 3 none ∈ wG := wG_tb 679 rfl rfl
set_option maxRecDepth 20000 in
theorem wd_680 : Cond.methodLink gC_Mo 215 y_Mo_goOn ∈ wG := wG_tb 680 rfl rfl
set_option maxRecDepth 20000 in
theorem wd_682 : Cond.instanceMethod y_Mo_goOn ∈ wG := wG_tb 682 rfl rfl
set_option maxRecDepth 20000 in
theorem wd_683 : Cond.code y_Mo_goOn c_Mo_goOn 6 none ∈ wG := wG_tb 683 rfl rfl
set_option maxRecDepth 20000 in
theorem wd_684 : Cond.methodLink gC_Mo 188 y_Mo_leave ∈ wG := wG_tb 684 rfl rfl
set_option maxRecDepth 20000 in
theorem wd_686 : Cond.instanceMethod y_Mo_leave ∈ wG := wG_tb 686 rfl rfl
set_option maxRecDepth 20000 in
theorem wd_687 : Cond.code y_Mo_leave c_Mo_leave 2 none ∈ wG := wG_tb 687 rfl rfl
set_option maxRecDepth 20000 in
theorem wd_688 : Cond.methodLink gC_Mo 197 y_Mo_branch ∈ wG := wG_tb 688 rfl rfl
set_option maxRecDepth 20000 in
theorem wd_690 : Cond.instanceMethod y_Mo_branch ∈ wG := wG_tb 690 rfl rfl
set_option maxRecDepth 20000 in
theorem wd_691 : Cond.code y_Mo_branch c_Mo_branch 7 none ∈ wG := wG_tb 691 rfl rfl
set_option maxRecDepth 20000 in
theorem wd_692 : Cond.methodLink gC_Mo 201 y_Mo_let ∈ wG := wG_tb 692 rfl rfl
set_option maxRecDepth 20000 in
theorem wd_694 : Cond.instanceMethod y_Mo_let ∈ wG := wG_tb 694 rfl rfl
set_option maxRecDepth 20000 in
theorem wd_695 : Cond.code y_Mo_let c_Mo_let 6 none ∈ wG := wG_tb 695 rfl rfl
set_option maxRecDepth 20000 in
theorem wd_696 : Cond.methodLink gC_Mo 204 y_Mo_call ∈ wG := wG_tb 696 rfl rfl
set_option maxRecDepth 20000 in
theorem wd_698 : Cond.instanceMethod y_Mo_call ∈ wG := wG_tb 698 rfl rfl
set_option maxRecDepth 20000 in
theorem wd_699 : Cond.code y_Mo_call c_Mo_call 5 none ∈ wG := wG_tb 699 rfl rfl
set_option maxRecDepth 20000 in
theorem wd_700 : Cond.methodLink gC_Mo 208 y_Mo_match ∈ wG := wG_tb 700 rfl rfl
set_option maxRecDepth 20000 in
theorem wd_702 : Cond.instanceMethod y_Mo_match ∈ wG := wG_tb 702 rfl rfl
set_option maxRecDepth 20000 in
theorem wd_703 : Cond.code y_Mo_match c_Mo_match 7 none ∈ wG := wG_tb 703 rfl rfl
set_option maxRecDepth 20000 in
theorem wd_704 : Cond.methodLink gC_Mo 211 y_Mo_joined ∈ wG := wG_tb 704 rfl rfl
set_option maxRecDepth 20000 in
theorem wd_706 : Cond.instanceMethod y_Mo_joined ∈ wG := wG_tb 706 rfl rfl
set_option maxRecDepth 20000 in
theorem wd_707 : Cond.code y_Mo_joined c_Mo_joined 4 (some .int) ∈ wG := wG_tb 707 rfl rfl
set_option maxRecDepth 20000 in
theorem wd_709 : Cond.instanceMethod y_Mo_cancel ∈ wG := wG_tb 709 rfl rfl
set_option maxRecDepth 20000 in
theorem wd_710 : Cond.selects gC_Mo y_Mo_cancel y_Mo_cancel ∈ wG := wG_tb 710 rfl rfl
set_option maxRecDepth 20000 in
theorem wd_711 : Cond.code y_Mo_cancel c_Mo_cancel 2 (some .boolean) ∈ wG := wG_tb 711 rfl rfl
set_option maxRecDepth 20000 in
theorem wd_713 : Cond.instanceMethod y_Mo_status ∈ wG := wG_tb 713 rfl rfl
set_option maxRecDepth 20000 in
theorem wd_714 : Cond.selects gC_Mo y_Mo_status y_Mo_status ∈ wG := wG_tb 714 rfl rfl
set_option maxRecDepth 20000 in
theorem wd_715 : Cond.code y_Mo_status c_Mo_status 3 (some .int) ∈ wG := wG_tb 715 rfl rfl
set_option maxRecDepth 20000 in
theorem wd_717 : Cond.instanceMethod y_Mo_value ∈ wG := wG_tb 717 rfl rfl
set_option maxRecDepth 20000 in
theorem wd_718 : Cond.selects gC_Mo y_Mo_value y_Mo_value ∈ wG := wG_tb 718 rfl rfl
set_option maxRecDepth 20000 in
theorem wd_719 : Cond.code y_Mo_value c_Mo_value 2 (some .int) ∈ wG := wG_tb 719 rfl rfl
set_option maxRecDepth 20000 in
theorem wd_720 : Cond.methodLink gC_Mo 240 y_Mo_status ∈ wG := wG_tb 720 rfl rfl
set_option maxRecDepth 20000 in
theorem wd_722 : Cond.instanceMethod y_Mo_kind ∈ wG := wG_tb 722 rfl rfl
set_option maxRecDepth 20000 in
theorem wd_723 : Cond.selects gC_Mo y_Mo_kind y_Mo_kind ∈ wG := wG_tb 723 rfl rfl
set_option maxRecDepth 20000 in
theorem wd_724 : Cond.code y_Mo_kind c_Mo_kind 2 (some .int) ∈ wG := wG_tb 724 rfl rfl
set_option maxRecDepth 20000 in
theorem wd_726 : Cond.instanceMethod y_Mo_uses ∈ wG := wG_tb 726 rfl rfl
set_option maxRecDepth 20000 in
theorem wd_727 : Cond.selects gC_Mo y_Mo_uses y_Mo_uses ∈ wG := wG_tb 727 rfl rfl
set_option maxRecDepth 20000 in
theorem wd_728 : Cond.code y_Mo_uses c_Mo_uses 2 (some .int) ∈ wG := wG_tb 728 rfl rfl
set_option maxRecDepth 20000 in
theorem wd_730 : Cond.instanceMethod y_Mo_runs ∈ wG := wG_tb 730 rfl rfl
set_option maxRecDepth 20000 in
theorem wd_731 : Cond.selects gC_Mo y_Mo_runs y_Mo_runs ∈ wG := wG_tb 731 rfl rfl
set_option maxRecDepth 20000 in
theorem wd_732 : Cond.code y_Mo_runs c_Mo_runs 2 (some .int) ∈ wG := wG_tb 732 rfl rfl
set_option maxRecDepth 20000 in
theorem wd_734 : Cond.instanceMethod y_Mo_steps ∈ wG := wG_tb 734 rfl rfl
set_option maxRecDepth 20000 in
theorem wd_735 : Cond.selects gC_Mo y_Mo_steps y_Mo_steps ∈ wG := wG_tb 735 rfl rfl
set_option maxRecDepth 20000 in
theorem wd_736 : Cond.code y_Mo_steps c_Mo_steps 1 (some .int) ∈ wG := wG_tb 736 rfl rfl
theorem ws_0 : Cond.selects gC_Te y_Te_readExpression y_Te_readExpression ∈ wG := wG_in (List.mem_append_left _ (List.mem_map.mpr ⟨(y_Te_readExpression, 6), List.mem_of_getElem? (i := 0) rfl, rfl⟩)) rfl
theorem ws_1 : Cond.selects gC_Te y_Te_readSign y_Te_readSign ∈ wG := wG_in (List.mem_append_left _ (List.mem_map.mpr ⟨(y_Te_readSign, 6), List.mem_of_getElem? (i := 1) rfl, rfl⟩)) rfl
theorem ws_2 : Cond.selects gC_Te y_Te_readExpressions y_Te_readExpressions ∈ wG := wG_in (List.mem_append_left _ (List.mem_map.mpr ⟨(y_Te_readExpressions, 6), List.mem_of_getElem? (i := 2) rfl, rfl⟩)) rfl
theorem ws_3 : Cond.selects gC_Te y_Te_readBinding y_Te_readBinding ∈ wG := wG_in (List.mem_append_left _ (List.mem_map.mpr ⟨(y_Te_readBinding, 6), List.mem_of_getElem? (i := 3) rfl, rfl⟩)) rfl
theorem ws_4 : Cond.selects gC_Te y_Te_readName y_Te_readName ∈ wG := wG_in (List.mem_append_left _ (List.mem_map.mpr ⟨(y_Te_readName, 6), List.mem_of_getElem? (i := 4) rfl, rfl⟩)) rfl
theorem ws_5 : Cond.selects gC_Te y_Te_readMatch y_Te_readMatch ∈ wG := wG_in (List.mem_append_left _ (List.mem_map.mpr ⟨(y_Te_readMatch, 6), List.mem_of_getElem? (i := 5) rfl, rfl⟩)) rfl
theorem ws_6 : Cond.selects gC_Te y_Te_readLeaf y_Te_readLeaf ∈ wG := wG_in (List.mem_append_left _ (List.mem_map.mpr ⟨(y_Te_readLeaf, 6), List.mem_of_getElem? (i := 6) rfl, rfl⟩)) rfl
theorem ws_7 : Cond.selects gC_B y_B_follow y_B_follow ∈ wG := wG_in (List.mem_append_left _ (List.mem_map.mpr ⟨(y_B_follow, 6), List.mem_of_getElem? (i := 7) rfl, rfl⟩)) rfl
theorem ws_8 : Cond.selects gC_B y_B_findDefiners y_B_findDefiners ∈ wG := wG_in (List.mem_append_left _ (List.mem_map.mpr ⟨(y_B_findDefiners, 6), List.mem_of_getElem? (i := 8) rfl, rfl⟩)) rfl
theorem ws_9 : Cond.selects gC_B y_B_findWays y_B_findWays ∈ wG := wG_in (List.mem_append_left _ (List.mem_map.mpr ⟨(y_B_findWays, 6), List.mem_of_getElem? (i := 9) rfl, rfl⟩)) rfl
theorem ws_10 : Cond.selects gC_B y_B_othersUsedBy y_B_othersUsedBy ∈ wG := wG_in (List.mem_append_left _ (List.mem_map.mpr ⟨(y_B_othersUsedBy, 6), List.mem_of_getElem? (i := 10) rfl, rfl⟩)) rfl
theorem ws_11 : Cond.selects gC_B y_B_cellsDefining y_B_cellsDefining ∈ wG := wG_in (List.mem_append_left _ (List.mem_map.mpr ⟨(y_B_cellsDefining, 6), List.mem_of_getElem? (i := 11) rfl, rfl⟩)) rfl
theorem ws_12 : Cond.selects gC_B y_B_faultOf y_B_faultOf ∈ wG := wG_in (List.mem_append_left _ (List.mem_map.mpr ⟨(y_B_faultOf, 6), List.mem_of_getElem? (i := 12) rfl, rfl⟩)) rfl
theorem ws_13 : Cond.selects gC_B y_B_usesMissingName y_B_usesMissingName ∈ wG := wG_in (List.mem_append_left _ (List.mem_map.mpr ⟨(y_B_usesMissingName, 6), List.mem_of_getElem? (i := 13) rfl, rfl⟩)) rfl
theorem ws_14 : Cond.selects gC_B y_B_spreadStale y_B_spreadStale ∈ wG := wG_in (List.mem_append_left _ (List.mem_map.mpr ⟨(y_B_spreadStale, 6), List.mem_of_getElem? (i := 14) rfl, rfl⟩)) rfl
theorem ws_15 : Cond.selects gC_B y_B_makeUsersStale y_B_makeUsersStale ∈ wG := wG_in (List.mem_append_left _ (List.mem_map.mpr ⟨(y_B_makeUsersStale, 6), List.mem_of_getElem? (i := 15) rfl, rfl⟩)) rfl
theorem ws_16 : Cond.selects gC_B y_B_nextToWorkOn y_B_nextToWorkOn ∈ wG := wG_in (List.mem_append_left _ (List.mem_map.mpr ⟨(y_B_nextToWorkOn, 6), List.mem_of_getElem? (i := 16) rfl, rfl⟩)) rfl
theorem ws_17 : Cond.selects gC_B y_B_staleCells y_B_staleCells ∈ wG := wG_in (List.mem_append_left _ (List.mem_map.mpr ⟨(y_B_staleCells, 6), List.mem_of_getElem? (i := 17) rfl, rfl⟩)) rfl
theorem ws_18 : Cond.selects gC_B y_B_workOn y_B_workOn ∈ wG := wG_in (List.mem_append_left _ (List.mem_map.mpr ⟨(y_B_workOn, 6), List.mem_of_getElem? (i := 18) rfl, rfl⟩)) rfl
theorem ws_19 : Cond.selects gC_B y_B_usableCells y_B_usableCells ∈ wG := wG_in (List.mem_append_left _ (List.mem_map.mpr ⟨(y_B_usableCells, 6), List.mem_of_getElem? (i := 19) rfl, rfl⟩)) rfl
theorem ws_20 : Cond.selects gC_Ev y_Ev_ofExpression y_Ev_ofExpression ∈ wG := wG_in (List.mem_append_left _ (List.mem_map.mpr ⟨(y_Ev_ofExpression, 5), List.mem_of_getElem? (i := 20) rfl, rfl⟩)) rfl
theorem ws_21 : Cond.selects gC_Ev y_Ev_fail y_Ev_fail ∈ wG := wG_in (List.mem_append_left _ (List.mem_map.mpr ⟨(y_Ev_fail, 5), List.mem_of_getElem? (i := 21) rfl, rfl⟩)) rfl
theorem ws_22 : Cond.selects gC_Ev y_Ev_ofBoth y_Ev_ofBoth ∈ wG := wG_in (List.mem_append_left _ (List.mem_map.mpr ⟨(y_Ev_ofBoth, 5), List.mem_of_getElem? (i := 22) rfl, rfl⟩)) rfl
theorem ws_23 : Cond.selects gC_Ev y_Ev_hasFailed y_Ev_hasFailed ∈ wG := wG_in (List.mem_append_left _ (List.mem_map.mpr ⟨(y_Ev_hasFailed, 5), List.mem_of_getElem? (i := 23) rfl, rfl⟩)) rfl
theorem ws_24 : Cond.selects gC_Ev y_Ev_ofChoice y_Ev_ofChoice ∈ wG := wG_in (List.mem_append_left _ (List.mem_map.mpr ⟨(y_Ev_ofChoice, 5), List.mem_of_getElem? (i := 24) rfl, rfl⟩)) rfl
theorem ws_25 : Cond.selects gC_Ev y_Ev_ofBinding y_Ev_ofBinding ∈ wG := wG_in (List.mem_append_left _ (List.mem_map.mpr ⟨(y_Ev_ofBinding, 5), List.mem_of_getElem? (i := 25) rfl, rfl⟩)) rfl
theorem ws_26 : Cond.selects gC_Ev y_Ev_ofCall y_Ev_ofCall ∈ wG := wG_in (List.mem_append_left _ (List.mem_map.mpr ⟨(y_Ev_ofCall, 5), List.mem_of_getElem? (i := 26) rfl, rfl⟩)) rfl
theorem ws_27 : Cond.selects gC_Ev y_Ev_ofMatch y_Ev_ofMatch ∈ wG := wG_in (List.mem_append_left _ (List.mem_map.mpr ⟨(y_Ev_ofMatch, 5), List.mem_of_getElem? (i := 27) rfl, rfl⟩)) rfl
theorem ws_28 : Cond.selects gC_Ev y_Ev_ofPair y_Ev_ofPair ∈ wG := wG_in (List.mem_append_left _ (List.mem_map.mpr ⟨(y_Ev_ofPair, 5), List.mem_of_getElem? (i := 28) rfl, rfl⟩)) rfl
theorem ws_29 : Cond.selects gC_Ev y_Ev_combine y_Ev_combine ∈ wG := wG_in (List.mem_append_left _ (List.mem_map.mpr ⟨(y_Ev_combine, 5), List.mem_of_getElem? (i := 29) rfl, rfl⟩)) rfl
theorem ws_30 : Cond.selects gC_Ev y_Ev_ofLeaf y_Ev_ofLeaf ∈ wG := wG_in (List.mem_append_left _ (List.mem_map.mpr ⟨(y_Ev_ofLeaf, 5), List.mem_of_getElem? (i := 30) rfl, rfl⟩)) rfl
theorem ws_31 : Cond.selects gC_Mo y_Mo_reads y_Mo_reads ∈ wG := wG_in (List.mem_append_left _ (List.mem_map.mpr ⟨(y_Mo_reads, 31), List.mem_of_getElem? (i := 31) rfl, rfl⟩)) rfl
theorem ws_32 : Cond.selects gC_Mo y_Mo_charAt y_Mo_charAt ∈ wG := wG_in (List.mem_append_left _ (List.mem_map.mpr ⟨(y_Mo_charAt, 31), List.mem_of_getElem? (i := 32) rfl, rfl⟩)) rfl
theorem ws_33 : Cond.selects gC_Mo y_Mo_come y_Mo_come ∈ wG := wG_in (List.mem_append_left _ (List.mem_map.mpr ⟨(y_Mo_come, 31), List.mem_of_getElem? (i := 33) rfl, rfl⟩)) rfl
theorem ws_34 : Cond.selects gC_Mo y_Mo_readOne y_Mo_readOne ∈ wG := wG_in (List.mem_append_left _ (List.mem_map.mpr ⟨(y_Mo_readOne, 31), List.mem_of_getElem? (i := 34) rfl, rfl⟩)) rfl
theorem ws_35 : Cond.selects gC_Mo y_Mo_findEnds y_Mo_findEnds ∈ wG := wG_in (List.mem_append_left _ (List.mem_map.mpr ⟨(y_Mo_findEnds, 31), List.mem_of_getElem? (i := 35) rfl, rfl⟩)) rfl
theorem ws_36 : Cond.selects gC_Mo y_Mo_isFunction y_Mo_isFunction ∈ wG := wG_in (List.mem_append_left _ (List.mem_map.mpr ⟨(y_Mo_isFunction, 31), List.mem_of_getElem? (i := 36) rfl, rfl⟩)) rfl
theorem ws_37 : Cond.selects gC_Mo y_Mo_becomes y_Mo_becomes ∈ wG := wG_in (List.mem_append_left _ (List.mem_map.mpr ⟨(y_Mo_becomes, 31), List.mem_of_getElem? (i := 37) rfl, rfl⟩)) rfl
theorem ws_38 : Cond.selects gC_Mo y_Mo_isThere y_Mo_isThere ∈ wG := wG_in (List.mem_append_left _ (List.mem_map.mpr ⟨(y_Mo_isThere, 31), List.mem_of_getElem? (i := 38) rfl, rfl⟩)) rfl
theorem ws_39 : Cond.selects gC_Mo y_Mo_needs y_Mo_needs ∈ wG := wG_in (List.mem_append_left _ (List.mem_map.mpr ⟨(y_Mo_needs, 31), List.mem_of_getElem? (i := 39) rfl, rfl⟩)) rfl
theorem ws_40 : Cond.selects gC_Mo y_Mo_workOnce y_Mo_workOnce ∈ wG := wG_in (List.mem_append_left _ (List.mem_map.mpr ⟨(y_Mo_workOnce, 31), List.mem_of_getElem? (i := 40) rfl, rfl⟩)) rfl
theorem ws_41 : Cond.selects gC_Mo y_Mo_isReady y_Mo_isReady ∈ wG := wG_in (List.mem_append_left _ (List.mem_map.mpr ⟨(y_Mo_isReady, 31), List.mem_of_getElem? (i := 41) rfl, rfl⟩)) rfl
theorem ws_42 : Cond.selects gC_Mo y_Mo_fault y_Mo_fault ∈ wG := wG_in (List.mem_append_left _ (List.mem_map.mpr ⟨(y_Mo_fault, 31), List.mem_of_getElem? (i := 42) rfl, rfl⟩)) rfl
theorem ws_43 : Cond.selects gC_Mo y_Mo_definer y_Mo_definer ∈ wG := wG_in (List.mem_append_left _ (List.mem_map.mpr ⟨(y_Mo_definer, 31), List.mem_of_getElem? (i := 43) rfl, rfl⟩)) rfl
theorem ws_44 : Cond.selects gC_Mo y_Mo_cycles y_Mo_cycles ∈ wG := wG_in (List.mem_append_left _ (List.mem_map.mpr ⟨(y_Mo_cycles, 31), List.mem_of_getElem? (i := 44) rfl, rfl⟩)) rfl
theorem ws_45 : Cond.selects gC_Mo y_Mo_workOut y_Mo_workOut ∈ wG := wG_in (List.mem_append_left _ (List.mem_map.mpr ⟨(y_Mo_workOut, 31), List.mem_of_getElem? (i := 45) rfl, rfl⟩)) rfl
theorem ws_46 : Cond.selects gC_Mo y_Mo_blocks y_Mo_blocks ∈ wG := wG_in (List.mem_append_left _ (List.mem_map.mpr ⟨(y_Mo_blocks, 31), List.mem_of_getElem? (i := 46) rfl, rfl⟩)) rfl
theorem ws_47 : Cond.selects gC_Mo y_Mo_typeOf y_Mo_typeOf ∈ wG := wG_in (List.mem_append_left _ (List.mem_map.mpr ⟨(y_Mo_typeOf, 31), List.mem_of_getElem? (i := 47) rfl, rfl⟩)) rfl
theorem ws_48 : Cond.selects gC_Mo y_Mo_ownName y_Mo_ownName ∈ wG := wG_in (List.mem_append_left _ (List.mem_map.mpr ⟨(y_Mo_ownName, 31), List.mem_of_getElem? (i := 48) rfl, rfl⟩)) rfl
theorem ws_49 : Cond.selects gC_Mo y_Mo_typeOfName y_Mo_typeOfName ∈ wG := wG_in (List.mem_append_left _ (List.mem_map.mpr ⟨(y_Mo_typeOfName, 31), List.mem_of_getElem? (i := 49) rfl, rfl⟩)) rfl
theorem ws_50 : Cond.selects gC_Mo y_Mo_typeOver y_Mo_typeOver ∈ wG := wG_in (List.mem_append_left _ (List.mem_map.mpr ⟨(y_Mo_typeOver, 31), List.mem_of_getElem? (i := 50) rfl, rfl⟩)) rfl
theorem ws_51 : Cond.selects gC_Mo y_Mo_popType y_Mo_popType ∈ wG := wG_in (List.mem_append_left _ (List.mem_map.mpr ⟨(y_Mo_popType, 31), List.mem_of_getElem? (i := 51) rfl, rfl⟩)) rfl
theorem ws_52 : Cond.selects gC_Mo y_Mo_isFunctionName y_Mo_isFunctionName ∈ wG := wG_in (List.mem_append_left _ (List.mem_map.mpr ⟨(y_Mo_isFunctionName, 31), List.mem_of_getElem? (i := 52) rfl, rfl⟩)) rfl
theorem ws_53 : Cond.selects gC_Mo y_Mo_pushType y_Mo_pushType ∈ wG := wG_in (List.mem_append_left _ (List.mem_map.mpr ⟨(y_Mo_pushType, 31), List.mem_of_getElem? (i := 53) rfl, rfl⟩)) rfl
theorem ws_54 : Cond.selects gC_Mo y_Mo_evaluate y_Mo_evaluate ∈ wG := wG_in (List.mem_append_left _ (List.mem_map.mpr ⟨(y_Mo_evaluate, 31), List.mem_of_getElem? (i := 54) rfl, rfl⟩)) rfl
theorem ws_55 : Cond.selects gC_Mo y_Mo_enter y_Mo_enter ∈ wG := wG_in (List.mem_append_left _ (List.mem_map.mpr ⟨(y_Mo_enter, 31), List.mem_of_getElem? (i := 55) rfl, rfl⟩)) rfl
theorem ws_56 : Cond.selects gC_Mo y_Mo_goOn y_Mo_goOn ∈ wG := wG_in (List.mem_append_left _ (List.mem_map.mpr ⟨(y_Mo_goOn, 31), List.mem_of_getElem? (i := 56) rfl, rfl⟩)) rfl
theorem ws_57 : Cond.selects gC_Mo y_Mo_leave y_Mo_leave ∈ wG := wG_in (List.mem_append_left _ (List.mem_map.mpr ⟨(y_Mo_leave, 31), List.mem_of_getElem? (i := 57) rfl, rfl⟩)) rfl
theorem ws_58 : Cond.selects gC_Mo y_Mo_branch y_Mo_branch ∈ wG := wG_in (List.mem_append_left _ (List.mem_map.mpr ⟨(y_Mo_branch, 31), List.mem_of_getElem? (i := 58) rfl, rfl⟩)) rfl
theorem ws_59 : Cond.selects gC_Mo y_Mo_let y_Mo_let ∈ wG := wG_in (List.mem_append_left _ (List.mem_map.mpr ⟨(y_Mo_let, 31), List.mem_of_getElem? (i := 59) rfl, rfl⟩)) rfl
theorem ws_60 : Cond.selects gC_Mo y_Mo_call y_Mo_call ∈ wG := wG_in (List.mem_append_left _ (List.mem_map.mpr ⟨(y_Mo_call, 31), List.mem_of_getElem? (i := 60) rfl, rfl⟩)) rfl
theorem ws_61 : Cond.selects gC_Mo y_Mo_match y_Mo_match ∈ wG := wG_in (List.mem_append_left _ (List.mem_map.mpr ⟨(y_Mo_match, 31), List.mem_of_getElem? (i := 61) rfl, rfl⟩)) rfl
theorem ws_62 : Cond.selects gC_Mo y_Mo_joined y_Mo_joined ∈ wG := wG_in (List.mem_append_left _ (List.mem_map.mpr ⟨(y_Mo_joined, 31), List.mem_of_getElem? (i := 62) rfl, rfl⟩)) rfl
theorem gW_B : ∀ w ∈ u_ws gC_B gT_B 6, w ∈ wG := fun w h => wG_in (List.all_eq_true.mp (show (u_ws gC_B gT_B 6).all (fun w => decide (w ∈ lw_tbl)) = true by decide +kernel) w h |> of_decide_eq_true) (List.all_eq_true.mp (show (u_ws gC_B gT_B 6).all goodWord = true by decide +kernel) w h)
theorem gW_Ce : ∀ w ∈ u_ws gC_Ce gT_Ce 8, w ∈ wG := fun w h => wG_in (List.all_eq_true.mp (show (u_ws gC_Ce gT_Ce 8).all (fun w => decide (w ∈ lw_tbl)) = true by decide +kernel) w h |> of_decide_eq_true) (List.all_eq_true.mp (show (u_ws gC_Ce gT_Ce 8).all goodWord = true by decide +kernel) w h)
theorem gW_Te : ∀ w ∈ u_ws gC_Te gT_Te 6, w ∈ wG := fun w h => wG_in (List.all_eq_true.mp (show (u_ws gC_Te gT_Te 6).all (fun w => decide (w ∈ lw_tbl)) = true by decide +kernel) w h |> of_decide_eq_true) (List.all_eq_true.mp (show (u_ws gC_Te gT_Te 6).all goodWord = true by decide +kernel) w h)
theorem gW_Fr : ∀ w ∈ u_ws gC_Fr gT_Fr 3, w ∈ wG := fun w h => wG_in (List.all_eq_true.mp (show (u_ws gC_Fr gT_Fr 3).all (fun w => decide (w ∈ lw_tbl)) = true by decide +kernel) w h |> of_decide_eq_true) (List.all_eq_true.mp (show (u_ws gC_Fr gT_Fr 3).all goodWord = true by decide +kernel) w h)
theorem gW_Ev : ∀ w ∈ u_ws gC_Ev gT_Ev 5, w ∈ wG := fun w h => wG_in (List.all_eq_true.mp (show (u_ws gC_Ev gT_Ev 5).all (fun w => decide (w ∈ lw_tbl)) = true by decide +kernel) w h |> of_decide_eq_true) (List.all_eq_true.mp (show (u_ws gC_Ev gT_Ev 5).all goodWord = true by decide +kernel) w h)
theorem gW_Mo : ∀ w ∈ u_ws gC_Mo gT_Mo 31, w ∈ wG := fun w h => wG_in (List.all_eq_true.mp (show (u_ws gC_Mo gT_Mo 31).all (fun w => decide (w ∈ lw_tbl)) = true by decide +kernel) w h |> of_decide_eq_true) (List.all_eq_true.mp (show (u_ws gC_Mo gT_Mo 31).all goodWord = true by decide +kernel) w h)
/-- the words of nest mates -/
def nestB : List Cond := [Cond.fieldLinkNest gC_Ty 9 (gT_Te 3).1 (gT_Te 3).2.1 (gT_Te 3).2.2.1 gC_B, Cond.fieldLinkNest gC_Ev 41 (gT_Te 3).1 (gT_Te 3).2.1 (gT_Te 3).2.2.1 gC_B, Cond.fieldLinkNest gC_B 144 (gT_Te 4).1 (gT_Te 4).2.1 (gT_Te 4).2.2.1 gC_B, Cond.fieldLinkNest gC_B 100 (gT_Te 5).1 (gT_Te 5).2.1 (gT_Te 5).2.2.1 gC_B, Cond.fieldLinkNest gC_Ev 34 (gT_Ce 0).1 (gT_Ce 0).2.1 (gT_Ce 0).2.2.1 gC_B, Cond.fieldLinkNest gC_B 57 (gT_Ce 0).1 (gT_Ce 0).2.1 (gT_Ce 0).2.2.1 gC_B, Cond.fieldLinkNest gC_Ty 57 (gT_Ce 0).1 (gT_Ce 0).2.1 (gT_Ce 0).2.2.1 gC_B, Cond.fieldLinkNest gC_B 54 (gT_Ce 1).1 (gT_Ce 1).2.1 (gT_Ce 1).2.2.1 gC_B, Cond.fieldLinkNest gC_B 125 (gT_Ce 2).1 (gT_Ce 2).2.1 (gT_Ce 2).2.2.1 gC_B, Cond.fieldLinkNest gC_B 87 (gT_Ce 3).1 (gT_Ce 3).2.1 (gT_Ce 3).2.2.1 gC_B, Cond.fieldLinkNest gC_Ev 60 (gT_Ce 4).1 (gT_Ce 4).2.1 (gT_Ce 4).2.2.1 gC_B, Cond.fieldLinkNest gC_B 91 (gT_Ce 4).1 (gT_Ce 4).2.1 (gT_Ce 4).2.2.1 gC_B, Cond.fieldLinkNest gC_Ev 50 (gT_Ce 5).1 (gT_Ce 5).2.1 (gT_Ce 5).2.2.1 gC_B, Cond.fieldLinkNest gC_B 94 (gT_Ce 5).1 (gT_Ce 5).2.1 (gT_Ce 5).2.2.1 gC_B, Cond.fieldLinkNest gC_Ev 53 (gT_Ce 6).1 (gT_Ce 6).2.1 (gT_Ce 6).2.2.1 gC_B, Cond.fieldLinkNest gC_B 97 (gT_Ce 6).1 (gT_Ce 6).2.1 (gT_Ce 6).2.2.1 gC_B, Cond.fieldLinkNest gC_Ty 67 (gT_Ce 6).1 (gT_Ce 6).2.1 (gT_Ce 6).2.2.1 gC_B, Cond.fieldLinkNest gC_Ev 63 (gT_Ce 7).1 (gT_Ce 7).2.1 (gT_Ce 7).2.2.1 gC_B, Cond.fieldLinkNest gC_B 103 (gT_Ce 7).1 (gT_Ce 7).2.1 (gT_Ce 7).2.2.1 gC_B, Cond.fieldLinkNest gC_Ev 121 (gT_Fr 0).1 (gT_Fr 0).2.1 (gT_Fr 0).2.2.1 gC_B, Cond.fieldLinkNest gC_Ev 100 (gT_Fr 1).1 (gT_Fr 1).2.1 (gT_Fr 1).2.2.1 gC_B, Cond.fieldLinkNest gC_Ev 40 (gT_Fr 2).1 (gT_Fr 2).2.1 (gT_Fr 2).2.2.1 gC_B, Cond.fieldLinkNest gC_B 106 (gT_Ev 3).1 (gT_Ev 3).2.1 (gT_Ev 3).2.2.1 gC_B, Cond.methodLinkNest gC_Te 49 y_B_isLocal gC_B, Cond.methodLinkNest gC_Te 87 y_B_isName gC_B, Cond.methodLinkNest gC_Te 80 y_B_isDigit gC_B, Cond.methodLinkNest gC_Te 83 y_B_hasBit gC_B, Cond.methodLinkNest gC_Ty 53 y_B_definerOf gC_B, Cond.methodLinkNest gC_Ty 63 y_B_isName gC_B, Cond.methodLinkNest gC_Ev 107 y_B_definerOf gC_B, Cond.methodLinkNest gC_Ev 96 y_B_isLocal gC_B, Cond.methodLinkNest gC_Ev 104 y_B_isDigit gC_B]
theorem nestB_ok : ∀ w ∈ nestB, nestW w = true := by simp [nestB, nestW]
set_option maxRecDepth 20000 in
theorem nestB_tb : ∀ w ∈ nestB, w ∈ lw_tbl := by
  intro w hw
  refine List.mem_append_right _ ?_
  simp only [nestB, List.mem_cons, List.not_mem_nil, or_false] at hw
  rcases hw with rfl | rfl | rfl | rfl | rfl | rfl | rfl | rfl | rfl | rfl | rfl | rfl | rfl | rfl | rfl | rfl | rfl | rfl | rfl | rfl | rfl | rfl | rfl | rfl | rfl | rfl | rfl | rfl | rfl | rfl | rfl | rfl
  · exact List.mem_of_getElem? (i := 35) rfl
  · exact List.mem_of_getElem? (i := 36) rfl
  · exact List.mem_of_getElem? (i := 38) rfl
  · exact List.mem_of_getElem? (i := 40) rfl
  · exact List.mem_of_getElem? (i := 57) rfl
  · exact List.mem_of_getElem? (i := 58) rfl
  · exact List.mem_of_getElem? (i := 59) rfl
  · exact List.mem_of_getElem? (i := 61) rfl
  · exact List.mem_of_getElem? (i := 63) rfl
  · exact List.mem_of_getElem? (i := 65) rfl
  · exact List.mem_of_getElem? (i := 67) rfl
  · exact List.mem_of_getElem? (i := 68) rfl
  · exact List.mem_of_getElem? (i := 70) rfl
  · exact List.mem_of_getElem? (i := 71) rfl
  · exact List.mem_of_getElem? (i := 73) rfl
  · exact List.mem_of_getElem? (i := 74) rfl
  · exact List.mem_of_getElem? (i := 75) rfl
  · exact List.mem_of_getElem? (i := 77) rfl
  · exact List.mem_of_getElem? (i := 78) rfl
  · exact List.mem_of_getElem? (i := 110) rfl
  · exact List.mem_of_getElem? (i := 112) rfl
  · exact List.mem_of_getElem? (i := 114) rfl
  · exact List.mem_of_getElem? (i := 126) rfl
  · exact List.mem_of_getElem? (i := 198) rfl
  · exact List.mem_of_getElem? (i := 225) rfl
  · exact List.mem_of_getElem? (i := 232) rfl
  · exact List.mem_of_getElem? (i := 239) rfl
  · exact List.mem_of_getElem? (i := 347) rfl
  · exact List.mem_of_getElem? (i := 358) rfl
  · exact List.mem_of_getElem? (i := 394) rfl
  · exact List.mem_of_getElem? (i := 411) rfl
  · exact List.mem_of_getElem? (i := 412) rfl
theorem wn_0 : Cond.fieldLinkNest gC_Ty 9 (gT_Te 3).1 (gT_Te 3).2.1 (gT_Te 3).2.2.1 gC_B ∈ nestB := List.mem_of_getElem? (i := 0) rfl
theorem wn_1 : Cond.fieldLinkNest gC_Ev 41 (gT_Te 3).1 (gT_Te 3).2.1 (gT_Te 3).2.2.1 gC_B ∈ nestB := List.mem_of_getElem? (i := 1) rfl
theorem wn_2 : Cond.fieldLinkNest gC_B 144 (gT_Te 4).1 (gT_Te 4).2.1 (gT_Te 4).2.2.1 gC_B ∈ nestB := List.mem_of_getElem? (i := 2) rfl
theorem wn_3 : Cond.fieldLinkNest gC_B 100 (gT_Te 5).1 (gT_Te 5).2.1 (gT_Te 5).2.2.1 gC_B ∈ nestB := List.mem_of_getElem? (i := 3) rfl
theorem wn_4 : Cond.fieldLinkNest gC_Ev 34 (gT_Ce 0).1 (gT_Ce 0).2.1 (gT_Ce 0).2.2.1 gC_B ∈ nestB := List.mem_of_getElem? (i := 4) rfl
theorem wn_5 : Cond.fieldLinkNest gC_B 57 (gT_Ce 0).1 (gT_Ce 0).2.1 (gT_Ce 0).2.2.1 gC_B ∈ nestB := List.mem_of_getElem? (i := 5) rfl
theorem wn_6 : Cond.fieldLinkNest gC_Ty 57 (gT_Ce 0).1 (gT_Ce 0).2.1 (gT_Ce 0).2.2.1 gC_B ∈ nestB := List.mem_of_getElem? (i := 6) rfl
theorem wn_7 : Cond.fieldLinkNest gC_B 54 (gT_Ce 1).1 (gT_Ce 1).2.1 (gT_Ce 1).2.2.1 gC_B ∈ nestB := List.mem_of_getElem? (i := 7) rfl
theorem wn_8 : Cond.fieldLinkNest gC_B 125 (gT_Ce 2).1 (gT_Ce 2).2.1 (gT_Ce 2).2.2.1 gC_B ∈ nestB := List.mem_of_getElem? (i := 8) rfl
theorem wn_9 : Cond.fieldLinkNest gC_B 87 (gT_Ce 3).1 (gT_Ce 3).2.1 (gT_Ce 3).2.2.1 gC_B ∈ nestB := List.mem_of_getElem? (i := 9) rfl
theorem wn_10 : Cond.fieldLinkNest gC_Ev 60 (gT_Ce 4).1 (gT_Ce 4).2.1 (gT_Ce 4).2.2.1 gC_B ∈ nestB := List.mem_of_getElem? (i := 10) rfl
theorem wn_11 : Cond.fieldLinkNest gC_B 91 (gT_Ce 4).1 (gT_Ce 4).2.1 (gT_Ce 4).2.2.1 gC_B ∈ nestB := List.mem_of_getElem? (i := 11) rfl
theorem wn_12 : Cond.fieldLinkNest gC_Ev 50 (gT_Ce 5).1 (gT_Ce 5).2.1 (gT_Ce 5).2.2.1 gC_B ∈ nestB := List.mem_of_getElem? (i := 12) rfl
theorem wn_13 : Cond.fieldLinkNest gC_B 94 (gT_Ce 5).1 (gT_Ce 5).2.1 (gT_Ce 5).2.2.1 gC_B ∈ nestB := List.mem_of_getElem? (i := 13) rfl
theorem wn_14 : Cond.fieldLinkNest gC_Ev 53 (gT_Ce 6).1 (gT_Ce 6).2.1 (gT_Ce 6).2.2.1 gC_B ∈ nestB := List.mem_of_getElem? (i := 14) rfl
theorem wn_15 : Cond.fieldLinkNest gC_B 97 (gT_Ce 6).1 (gT_Ce 6).2.1 (gT_Ce 6).2.2.1 gC_B ∈ nestB := List.mem_of_getElem? (i := 15) rfl
theorem wn_16 : Cond.fieldLinkNest gC_Ty 67 (gT_Ce 6).1 (gT_Ce 6).2.1 (gT_Ce 6).2.2.1 gC_B ∈ nestB := List.mem_of_getElem? (i := 16) rfl
theorem wn_17 : Cond.fieldLinkNest gC_Ev 63 (gT_Ce 7).1 (gT_Ce 7).2.1 (gT_Ce 7).2.2.1 gC_B ∈ nestB := List.mem_of_getElem? (i := 17) rfl
theorem wn_18 : Cond.fieldLinkNest gC_B 103 (gT_Ce 7).1 (gT_Ce 7).2.1 (gT_Ce 7).2.2.1 gC_B ∈ nestB := List.mem_of_getElem? (i := 18) rfl
theorem wn_19 : Cond.fieldLinkNest gC_Ev 121 (gT_Fr 0).1 (gT_Fr 0).2.1 (gT_Fr 0).2.2.1 gC_B ∈ nestB := List.mem_of_getElem? (i := 19) rfl
theorem wn_20 : Cond.fieldLinkNest gC_Ev 100 (gT_Fr 1).1 (gT_Fr 1).2.1 (gT_Fr 1).2.2.1 gC_B ∈ nestB := List.mem_of_getElem? (i := 20) rfl
theorem wn_21 : Cond.fieldLinkNest gC_Ev 40 (gT_Fr 2).1 (gT_Fr 2).2.1 (gT_Fr 2).2.2.1 gC_B ∈ nestB := List.mem_of_getElem? (i := 21) rfl
theorem wn_22 : Cond.fieldLinkNest gC_B 106 (gT_Ev 3).1 (gT_Ev 3).2.1 (gT_Ev 3).2.2.1 gC_B ∈ nestB := List.mem_of_getElem? (i := 22) rfl
theorem wn_23 : Cond.methodLinkNest gC_Te 49 y_B_isLocal gC_B ∈ nestB := List.mem_of_getElem? (i := 23) rfl
theorem wn_24 : Cond.methodLinkNest gC_Te 87 y_B_isName gC_B ∈ nestB := List.mem_of_getElem? (i := 24) rfl
theorem wn_25 : Cond.methodLinkNest gC_Te 80 y_B_isDigit gC_B ∈ nestB := List.mem_of_getElem? (i := 25) rfl
theorem wn_26 : Cond.methodLinkNest gC_Te 83 y_B_hasBit gC_B ∈ nestB := List.mem_of_getElem? (i := 26) rfl
theorem wn_27 : Cond.methodLinkNest gC_Ty 53 y_B_definerOf gC_B ∈ nestB := List.mem_of_getElem? (i := 27) rfl
theorem wn_28 : Cond.methodLinkNest gC_Ty 63 y_B_isName gC_B ∈ nestB := List.mem_of_getElem? (i := 28) rfl
theorem wn_29 : Cond.methodLinkNest gC_Ev 107 y_B_definerOf gC_B ∈ nestB := List.mem_of_getElem? (i := 29) rfl
theorem wn_30 : Cond.methodLinkNest gC_Ev 96 y_B_isLocal gC_B ∈ nestB := List.mem_of_getElem? (i := 30) rfl
theorem wn_31 : Cond.methodLinkNest gC_Ev 104 y_B_isDigit gC_B ∈ nestB := List.mem_of_getElem? (i := 31) rfl
end
section
theorem d_B_init_0 : decode c_B_init 0 = .ok (.aload_n 0, 1) := by decide +kernel
theorem d_B_init_1 : decode c_B_init 1 = .ok (.invokespecial 1, 3) := by decide +kernel
theorem d_B_init_4 : decode c_B_init 4 = .ok (.aload_n 0, 1) := by decide +kernel
theorem d_B_init_5 : decode c_B_init 5 = .ok (.bipush 10, 2) := by decide +kernel
theorem d_B_init_7 : decode c_B_init 7 = .ok (.anewarray 9, 3) := by decide +kernel
theorem d_B_init_10 : decode c_B_init 10 = .ok (.putfield 11, 3) := by decide +kernel
theorem d_B_init_13 : decode c_B_init 13 = .ok (.iconst 0, 1) := by decide +kernel
theorem d_B_init_14 : decode c_B_init 14 = .ok (.istore_n 1, 1) := by decide +kernel
theorem d_B_init_15 : decode c_B_init 15 = .ok (.iload_n 1, 1) := by decide +kernel
theorem d_B_init_16 : decode c_B_init 16 = .ok (.bipush 10, 2) := by decide +kernel
theorem d_B_init_18 : decode c_B_init 18 = .ok (.if_icmp .ge 22, 3) := by decide +kernel
theorem d_B_init_21 : decode c_B_init 21 = .ok (.aload_n 0, 1) := by decide +kernel
theorem d_B_init_22 : decode c_B_init 22 = .ok (.getfield 11, 3) := by decide +kernel
theorem d_B_init_25 : decode c_B_init 25 = .ok (.iload_n 1, 1) := by decide +kernel
theorem d_B_init_26 : decode c_B_init 26 = .ok (.new 9, 3) := by decide +kernel
theorem d_B_init_29 : decode c_B_init 29 = .ok (.dup, 1) := by decide +kernel
theorem d_B_init_30 : decode c_B_init 30 = .ok (.invokespecial 15, 3) := by decide +kernel
theorem d_B_init_33 : decode c_B_init 33 = .ok (.aastore, 1) := by decide +kernel
theorem d_B_init_34 : decode c_B_init 34 = .ok (.iinc 1 1, 3) := by decide +kernel
theorem d_B_init_37 : decode c_B_init 37 = .ok (.goto (-22), 3) := by decide +kernel
theorem d_B_init_40 : decode c_B_init 40 = .ok (.aload_n 0, 1) := by decide +kernel
theorem d_B_init_41 : decode c_B_init 41 = .ok (.bipush 10, 2) := by decide +kernel
theorem d_B_init_43 : decode c_B_init 43 = .ok (.anewarray 9, 3) := by decide +kernel
theorem d_B_init_46 : decode c_B_init 46 = .ok (.putfield 16, 3) := by decide +kernel
theorem d_B_init_49 : decode c_B_init 49 = .ok (.aload_n 0, 1) := by decide +kernel
theorem d_B_init_50 : decode c_B_init 50 = .ok (.bipush 10, 2) := by decide +kernel
theorem d_B_init_52 : decode c_B_init 52 = .ok (.newarray .int, 2) := by decide +kernel
theorem d_B_init_54 : decode c_B_init 54 = .ok (.putfield 19, 3) := by decide +kernel
theorem d_B_init_57 : decode c_B_init 57 = .ok (.aload_n 0, 1) := by decide +kernel
theorem d_B_init_58 : decode c_B_init 58 = .ok (.new 23, 3) := by decide +kernel
theorem d_B_init_61 : decode c_B_init 61 = .ok (.dup, 1) := by decide +kernel
theorem d_B_init_62 : decode c_B_init 62 = .ok (.invokespecial 25, 3) := by decide +kernel
theorem d_B_init_65 : decode c_B_init 65 = .ok (.putfield 26, 3) := by decide +kernel
theorem d_B_init_68 : decode c_B_init 68 = .ok (.aload_n 0, 1) := by decide +kernel
theorem d_B_init_69 : decode c_B_init 69 = .ok (.bipush 24, 2) := by decide +kernel
theorem d_B_init_71 : decode c_B_init 71 = .ok (.newarray .char, 2) := by decide +kernel
theorem d_B_init_73 : decode c_B_init 73 = .ok (.putfield 30, 3) := by decide +kernel
theorem d_B_init_76 : decode c_B_init 76 = .ok (.aload_n 0, 1) := by decide +kernel
theorem d_B_init_77 : decode c_B_init 77 = .ok (.iconst 0, 1) := by decide +kernel
theorem d_B_init_78 : decode c_B_init 78 = .ok (.putfield 34, 3) := by decide +kernel
theorem d_B_init_81 : decode c_B_init 81 = .ok (.return_, 1) := by decide +kernel
theorem d_Ce_init_0 : decode c_Ce_init 0 = .ok (.aload_n 0, 1) := by decide +kernel
theorem d_Ce_init_1 : decode c_Ce_init 1 = .ok (.invokespecial 3, 3) := by decide +kernel
theorem d_Ce_init_4 : decode c_Ce_init 4 = .ok (.aload_n 0, 1) := by decide +kernel
theorem d_Ce_init_5 : decode c_Ce_init 5 = .ok (.new 9, 3) := by decide +kernel
theorem d_Ce_init_8 : decode c_Ce_init 8 = .ok (.dup, 1) := by decide +kernel
theorem d_Ce_init_9 : decode c_Ce_init 9 = .ok (.invokespecial 11, 3) := by decide +kernel
theorem d_Ce_init_12 : decode c_Ce_init 12 = .ok (.putfield 12, 3) := by decide +kernel
theorem d_Ce_init_15 : decode c_Ce_init 15 = .ok (.aload_n 0, 1) := by decide +kernel
theorem d_Ce_init_16 : decode c_Ce_init 16 = .ok (.iconst (-1), 1) := by decide +kernel
theorem d_Ce_init_17 : decode c_Ce_init 17 = .ok (.putfield 18, 3) := by decide +kernel
theorem d_Ce_init_20 : decode c_Ce_init 20 = .ok (.aload_n 0, 1) := by decide +kernel
theorem d_Ce_init_21 : decode c_Ce_init 21 = .ok (.iconst 0, 1) := by decide +kernel
theorem d_Ce_init_22 : decode c_Ce_init 22 = .ok (.putfield 22, 3) := by decide +kernel
theorem d_Ce_init_25 : decode c_Ce_init 25 = .ok (.aload_n 0, 1) := by decide +kernel
theorem d_Ce_init_26 : decode c_Ce_init 26 = .ok (.iconst 0, 1) := by decide +kernel
theorem d_Ce_init_27 : decode c_Ce_init 27 = .ok (.putfield 25, 3) := by decide +kernel
theorem d_Ce_init_30 : decode c_Ce_init 30 = .ok (.aload_n 0, 1) := by decide +kernel
theorem d_Ce_init_31 : decode c_Ce_init 31 = .ok (.iconst 0, 1) := by decide +kernel
theorem d_Ce_init_32 : decode c_Ce_init 32 = .ok (.putfield 29, 3) := by decide +kernel
theorem d_Ce_init_35 : decode c_Ce_init 35 = .ok (.aload_n 0, 1) := by decide +kernel
theorem d_Ce_init_36 : decode c_Ce_init 36 = .ok (.iconst 0, 1) := by decide +kernel
theorem d_Ce_init_37 : decode c_Ce_init 37 = .ok (.putfield 32, 3) := by decide +kernel
theorem d_Ce_init_40 : decode c_Ce_init 40 = .ok (.aload_n 0, 1) := by decide +kernel
theorem d_Ce_init_41 : decode c_Ce_init 41 = .ok (.iconst 0, 1) := by decide +kernel
theorem d_Ce_init_42 : decode c_Ce_init 42 = .ok (.putfield 35, 3) := by decide +kernel
theorem d_Ce_init_45 : decode c_Ce_init 45 = .ok (.aload_n 0, 1) := by decide +kernel
theorem d_Ce_init_46 : decode c_Ce_init 46 = .ok (.iconst 0, 1) := by decide +kernel
theorem d_Ce_init_47 : decode c_Ce_init 47 = .ok (.putfield 38, 3) := by decide +kernel
theorem d_Ce_init_50 : decode c_Ce_init 50 = .ok (.return_, 1) := by decide +kernel
theorem d_Te_init_0 : decode c_Te_init 0 = .ok (.aload_n 0, 1) := by decide +kernel
theorem d_Te_init_1 : decode c_Te_init 1 = .ok (.invokespecial 3, 3) := by decide +kernel
theorem d_Te_init_4 : decode c_Te_init 4 = .ok (.aload_n 0, 1) := by decide +kernel
theorem d_Te_init_5 : decode c_Te_init 5 = .ok (.bipush 24, 2) := by decide +kernel
theorem d_Te_init_7 : decode c_Te_init 7 = .ok (.newarray .char, 2) := by decide +kernel
theorem d_Te_init_9 : decode c_Te_init 9 = .ok (.putfield 9, 3) := by decide +kernel
theorem d_Te_init_12 : decode c_Te_init 12 = .ok (.aload_n 0, 1) := by decide +kernel
theorem d_Te_init_13 : decode c_Te_init 13 = .ok (.bipush 24, 2) := by decide +kernel
theorem d_Te_init_15 : decode c_Te_init 15 = .ok (.newarray .int, 2) := by decide +kernel
theorem d_Te_init_17 : decode c_Te_init 17 = .ok (.putfield 15, 3) := by decide +kernel
theorem d_Te_init_20 : decode c_Te_init 20 = .ok (.aload_n 0, 1) := by decide +kernel
theorem d_Te_init_21 : decode c_Te_init 21 = .ok (.iconst 0, 1) := by decide +kernel
theorem d_Te_init_22 : decode c_Te_init 22 = .ok (.putfield 19, 3) := by decide +kernel
theorem d_Te_init_25 : decode c_Te_init 25 = .ok (.aload_n 0, 1) := by decide +kernel
theorem d_Te_init_26 : decode c_Te_init 26 = .ok (.iconst 0, 1) := by decide +kernel
theorem d_Te_init_27 : decode c_Te_init 27 = .ok (.putfield 23, 3) := by decide +kernel
theorem d_Te_init_30 : decode c_Te_init 30 = .ok (.aload_n 0, 1) := by decide +kernel
theorem d_Te_init_31 : decode c_Te_init 31 = .ok (.iconst 0, 1) := by decide +kernel
theorem d_Te_init_32 : decode c_Te_init 32 = .ok (.putfield 26, 3) := by decide +kernel
theorem d_Te_init_35 : decode c_Te_init 35 = .ok (.aload_n 0, 1) := by decide +kernel
theorem d_Te_init_36 : decode c_Te_init 36 = .ok (.iconst 0, 1) := by decide +kernel
theorem d_Te_init_37 : decode c_Te_init 37 = .ok (.putfield 30, 3) := by decide +kernel
theorem d_Te_init_40 : decode c_Te_init 40 = .ok (.return_, 1) := by decide +kernel
theorem d_Ev_init_0 : decode c_Ev_init 0 = .ok (.aload_n 0, 1) := by decide +kernel
theorem d_Ev_init_1 : decode c_Ev_init 1 = .ok (.invokespecial 3, 3) := by decide +kernel
theorem d_Ev_init_4 : decode c_Ev_init 4 = .ok (.aload_n 0, 1) := by decide +kernel
theorem d_Ev_init_5 : decode c_Ev_init 5 = .ok (.bipush 6, 2) := by decide +kernel
theorem d_Ev_init_7 : decode c_Ev_init 7 = .ok (.anewarray 9, 3) := by decide +kernel
theorem d_Ev_init_10 : decode c_Ev_init 10 = .ok (.putfield 11, 3) := by decide +kernel
theorem d_Ev_init_13 : decode c_Ev_init 13 = .ok (.iconst 0, 1) := by decide +kernel
theorem d_Ev_init_14 : decode c_Ev_init 14 = .ok (.istore_n 1, 1) := by decide +kernel
theorem d_Ev_init_15 : decode c_Ev_init 15 = .ok (.iload_n 1, 1) := by decide +kernel
theorem d_Ev_init_16 : decode c_Ev_init 16 = .ok (.iconst 5, 1) := by decide +kernel
theorem d_Ev_init_17 : decode c_Ev_init 17 = .ok (.if_icmp .gt 23, 3) := by decide +kernel
theorem d_Ev_init_20 : decode c_Ev_init 20 = .ok (.aload_n 0, 1) := by decide +kernel
theorem d_Ev_init_21 : decode c_Ev_init 21 = .ok (.getfield 11, 3) := by decide +kernel
theorem d_Ev_init_24 : decode c_Ev_init 24 = .ok (.iload_n 1, 1) := by decide +kernel
theorem d_Ev_init_25 : decode c_Ev_init 25 = .ok (.new 9, 3) := by decide +kernel
theorem d_Ev_init_28 : decode c_Ev_init 28 = .ok (.dup, 1) := by decide +kernel
theorem d_Ev_init_29 : decode c_Ev_init 29 = .ok (.iload_n 1, 1) := by decide +kernel
theorem d_Ev_init_30 : decode c_Ev_init 30 = .ok (.invokespecial 17, 3) := by decide +kernel
theorem d_Ev_init_33 : decode c_Ev_init 33 = .ok (.aastore, 1) := by decide +kernel
theorem d_Ev_init_34 : decode c_Ev_init 34 = .ok (.iinc 1 1, 3) := by decide +kernel
theorem d_Ev_init_37 : decode c_Ev_init 37 = .ok (.goto (-22), 3) := by decide +kernel
theorem d_Ev_init_40 : decode c_Ev_init 40 = .ok (.aload_n 0, 1) := by decide +kernel
theorem d_Ev_init_41 : decode c_Ev_init 41 = .ok (.aconst_null, 1) := by decide +kernel
theorem d_Ev_init_42 : decode c_Ev_init 42 = .ok (.putfield 20, 3) := by decide +kernel
theorem d_Ev_init_45 : decode c_Ev_init 45 = .ok (.aload_n 0, 1) := by decide +kernel
theorem d_Ev_init_46 : decode c_Ev_init 46 = .ok (.iconst 0, 1) := by decide +kernel
theorem d_Ev_init_47 : decode c_Ev_init 47 = .ok (.putfield 24, 3) := by decide +kernel
theorem d_Ev_init_50 : decode c_Ev_init 50 = .ok (.aload_n 0, 1) := by decide +kernel
theorem d_Ev_init_51 : decode c_Ev_init 51 = .ok (.iconst 0, 1) := by decide +kernel
theorem d_Ev_init_52 : decode c_Ev_init 52 = .ok (.putfield 28, 3) := by decide +kernel
theorem d_Ev_init_55 : decode c_Ev_init 55 = .ok (.aload_n 0, 1) := by decide +kernel
theorem d_Ev_init_56 : decode c_Ev_init 56 = .ok (.iconst 0, 1) := by decide +kernel
theorem d_Ev_init_57 : decode c_Ev_init 57 = .ok (.putfield 31, 3) := by decide +kernel
theorem d_Ev_init_60 : decode c_Ev_init 60 = .ok (.return_, 1) := by decide +kernel
theorem d_Fr_init_0 : decode c_Fr_init 0 = .ok (.aload_n 0, 1) := by decide +kernel
theorem d_Fr_init_1 : decode c_Fr_init 1 = .ok (.invokespecial 3, 3) := by decide +kernel
theorem d_Fr_init_4 : decode c_Fr_init 4 = .ok (.aload_n 0, 1) := by decide +kernel
theorem d_Fr_init_5 : decode c_Fr_init 5 = .ok (.iload_n 1, 1) := by decide +kernel
theorem d_Fr_init_6 : decode c_Fr_init 6 = .ok (.putfield 9, 3) := by decide +kernel
theorem d_Fr_init_9 : decode c_Fr_init 9 = .ok (.aload_n 0, 1) := by decide +kernel
theorem d_Fr_init_10 : decode c_Fr_init 10 = .ok (.bipush 6, 2) := by decide +kernel
theorem d_Fr_init_12 : decode c_Fr_init 12 = .ok (.newarray .int, 2) := by decide +kernel
theorem d_Fr_init_14 : decode c_Fr_init 14 = .ok (.putfield 15, 3) := by decide +kernel
theorem d_Fr_init_17 : decode c_Fr_init 17 = .ok (.aload_n 0, 1) := by decide +kernel
theorem d_Fr_init_18 : decode c_Fr_init 18 = .ok (.aconst_null, 1) := by decide +kernel
theorem d_Fr_init_19 : decode c_Fr_init 19 = .ok (.putfield 19, 3) := by decide +kernel
theorem d_Fr_init_22 : decode c_Fr_init 22 = .ok (.return_, 1) := by decide +kernel
theorem d_B_type_0 : decode c_B_type 0 = .ok (.iload_n 3, 1) := by decide +kernel
theorem d_B_type_1 : decode c_B_type 1 = .ok (.iconst 1, 1) := by decide +kernel
theorem d_B_type_2 : decode c_B_type 2 = .ok (.if_icmp .lt 28, 3) := by decide +kernel
theorem d_B_type_5 : decode c_B_type 5 = .ok (.iload_n 3, 1) := by decide +kernel
theorem d_B_type_6 : decode c_B_type 6 = .ok (.bipush 8, 2) := by decide +kernel
theorem d_B_type_8 : decode c_B_type 8 = .ok (.if_icmp .gt 22, 3) := by decide +kernel
theorem d_B_type_11 : decode c_B_type 11 = .ok (.aload_n 0, 1) := by decide +kernel
theorem d_B_type_12 : decode c_B_type 12 = .ok (.getfield 34, 3) := by decide +kernel
theorem d_B_type_15 : decode c_B_type 15 = .ok (.iload_n 3, 1) := by decide +kernel
theorem d_B_type_16 : decode c_B_type 16 = .ok (.iadd, 1) := by decide +kernel
theorem d_B_type_17 : decode c_B_type 17 = .ok (.bipush 24, 2) := by decide +kernel
theorem d_B_type_19 : decode c_B_type 19 = .ok (.if_icmp .gt 11, 3) := by decide +kernel
theorem d_B_type_22 : decode c_B_type 22 = .ok (.lload_n 1, 1) := by decide +kernel
theorem d_B_type_23 : decode c_B_type 23 = .ok (.iload_n 3, 1) := by decide +kernel
theorem d_B_type_24 : decode c_B_type 24 = .ok (.invokestatic 38, 3) := by decide +kernel
theorem d_B_type_27 : decode c_B_type 27 = .ok (.ifCond .ne 5, 3) := by decide +kernel
theorem d_B_type_30 : decode c_B_type 30 = .ok (.iconst (-1), 1) := by decide +kernel
theorem d_B_type_31 : decode c_B_type 31 = .ok (.ireturn, 1) := by decide +kernel
theorem d_B_type_32 : decode c_B_type 32 = .ok (.iconst 0, 1) := by decide +kernel
theorem d_B_type_33 : decode c_B_type 33 = .ok (.istore 4, 2) := by decide +kernel
theorem d_B_type_35 : decode c_B_type 35 = .ok (.iload 4, 2) := by decide +kernel
theorem d_B_type_37 : decode c_B_type 37 = .ok (.iload_n 3, 1) := by decide +kernel
theorem d_B_type_38 : decode c_B_type 38 = .ok (.if_icmp .ge 27, 3) := by decide +kernel
theorem d_B_type_41 : decode c_B_type 41 = .ok (.aload_n 0, 1) := by decide +kernel
theorem d_B_type_42 : decode c_B_type 42 = .ok (.getfield 30, 3) := by decide +kernel
theorem d_B_type_45 : decode c_B_type 45 = .ok (.aload_n 0, 1) := by decide +kernel
theorem d_B_type_46 : decode c_B_type 46 = .ok (.getfield 34, 3) := by decide +kernel
theorem d_B_type_49 : decode c_B_type 49 = .ok (.iload 4, 2) := by decide +kernel
theorem d_B_type_51 : decode c_B_type 51 = .ok (.iadd, 1) := by decide +kernel
theorem d_B_type_52 : decode c_B_type 52 = .ok (.lload_n 1, 1) := by decide +kernel
theorem d_B_type_53 : decode c_B_type 53 = .ok (.iload 4, 2) := by decide +kernel
theorem d_B_type_55 : decode c_B_type 55 = .ok (.invokestatic 42, 3) := by decide +kernel
theorem d_B_type_58 : decode c_B_type 58 = .ok (.castore, 1) := by decide +kernel
theorem d_B_type_59 : decode c_B_type 59 = .ok (.iinc 4 1, 3) := by decide +kernel
theorem d_B_type_62 : decode c_B_type 62 = .ok (.goto (-27), 3) := by decide +kernel
theorem d_B_type_65 : decode c_B_type 65 = .ok (.aload_n 0, 1) := by decide +kernel
theorem d_B_type_66 : decode c_B_type 66 = .ok (.dup, 1) := by decide +kernel
theorem d_B_type_67 : decode c_B_type 67 = .ok (.getfield 34, 3) := by decide +kernel
theorem d_B_type_70 : decode c_B_type 70 = .ok (.iload_n 3, 1) := by decide +kernel
theorem d_B_type_71 : decode c_B_type 71 = .ok (.iadd, 1) := by decide +kernel
theorem d_B_type_72 : decode c_B_type 72 = .ok (.putfield 34, 3) := by decide +kernel
theorem d_B_type_75 : decode c_B_type 75 = .ok (.aload_n 0, 1) := by decide +kernel
theorem d_B_type_76 : decode c_B_type 76 = .ok (.getfield 34, 3) := by decide +kernel
theorem d_B_type_79 : decode c_B_type 79 = .ok (.ireturn, 1) := by decide +kernel
theorem d_B_areTypeable_0 : decode c_B_areTypeable 0 = .ok (.iconst 0, 1) := by decide +kernel
theorem d_B_areTypeable_1 : decode c_B_areTypeable 1 = .ok (.istore_n 3, 1) := by decide +kernel
theorem d_B_areTypeable_2 : decode c_B_areTypeable 2 = .ok (.iload_n 3, 1) := by decide +kernel
theorem d_B_areTypeable_3 : decode c_B_areTypeable 3 = .ok (.iload_n 2, 1) := by decide +kernel
theorem d_B_areTypeable_4 : decode c_B_areTypeable 4 = .ok (.if_icmp .ge 32, 3) := by decide +kernel
theorem d_B_areTypeable_7 : decode c_B_areTypeable 7 = .ok (.lload_n 0, 1) := by decide +kernel
theorem d_B_areTypeable_8 : decode c_B_areTypeable 8 = .ok (.iload_n 3, 1) := by decide +kernel
theorem d_B_areTypeable_9 : decode c_B_areTypeable 9 = .ok (.invokestatic 42, 3) := by decide +kernel
theorem d_B_areTypeable_12 : decode c_B_areTypeable 12 = .ok (.istore 4, 2) := by decide +kernel
theorem d_B_areTypeable_14 : decode c_B_areTypeable 14 = .ok (.iload 4, 2) := by decide +kernel
theorem d_B_areTypeable_16 : decode c_B_areTypeable 16 = .ok (.bipush 33, 2) := by decide +kernel
theorem d_B_areTypeable_18 : decode c_B_areTypeable 18 = .ok (.if_icmp .lt 10, 3) := by decide +kernel
theorem d_B_areTypeable_21 : decode c_B_areTypeable 21 = .ok (.iload 4, 2) := by decide +kernel
theorem d_B_areTypeable_23 : decode c_B_areTypeable 23 = .ok (.bipush 126, 2) := by decide +kernel
theorem d_B_areTypeable_25 : decode c_B_areTypeable 25 = .ok (.if_icmp .le 5, 3) := by decide +kernel
theorem d_B_areTypeable_28 : decode c_B_areTypeable 28 = .ok (.iconst 0, 1) := by decide +kernel
theorem d_B_areTypeable_29 : decode c_B_areTypeable 29 = .ok (.ireturn, 1) := by decide +kernel
theorem d_B_areTypeable_30 : decode c_B_areTypeable 30 = .ok (.iinc 3 1, 3) := by decide +kernel
theorem d_B_areTypeable_33 : decode c_B_areTypeable 33 = .ok (.goto (-31), 3) := by decide +kernel
theorem d_B_areTypeable_36 : decode c_B_areTypeable 36 = .ok (.iconst 1, 1) := by decide +kernel
theorem d_B_areTypeable_37 : decode c_B_areTypeable 37 = .ok (.ireturn, 1) := by decide +kernel
theorem d_B_characterAt_0 : decode c_B_characterAt 0 = .ok (.lload_n 0, 1) := by decide +kernel
theorem d_B_characterAt_1 : decode c_B_characterAt 1 = .ok (.bipush 8, 2) := by decide +kernel
theorem d_B_characterAt_3 : decode c_B_characterAt 3 = .ok (.iload_n 2, 1) := by decide +kernel
theorem d_B_characterAt_4 : decode c_B_characterAt 4 = .ok (.imul, 1) := by decide +kernel
theorem d_B_characterAt_5 : decode c_B_characterAt 5 = .ok (.lushr, 1) := by decide +kernel
theorem d_B_characterAt_6 : decode c_B_characterAt 6 = .ok (.ldc2_w 109, 3) := by decide +kernel
theorem d_B_characterAt_9 : decode c_B_characterAt 9 = .ok (.land, 1) := by decide +kernel
theorem d_B_characterAt_10 : decode c_B_characterAt 10 = .ok (.l2i, 1) := by decide +kernel
theorem d_B_characterAt_11 : decode c_B_characterAt 11 = .ok (.i2c, 1) := by decide +kernel
theorem d_B_characterAt_12 : decode c_B_characterAt 12 = .ok (.ireturn, 1) := by decide +kernel
theorem d_B_set_0 : decode c_B_set 0 = .ok (.iload_n 1, 1) := by decide +kernel
theorem d_B_set_1 : decode c_B_set 1 = .ok (.invokestatic 46, 3) := by decide +kernel
theorem d_B_set_4 : decode c_B_set 4 = .ok (.ifCond .eq 20, 3) := by decide +kernel
theorem d_B_set_7 : decode c_B_set 7 = .ok (.iload_n 2, 1) := by decide +kernel
theorem d_B_set_8 : decode c_B_set 8 = .ok (.ifCond .lt 16, 3) := by decide +kernel
theorem d_B_set_11 : decode c_B_set 11 = .ok (.iload_n 2, 1) := by decide +kernel
theorem d_B_set_12 : decode c_B_set 12 = .ok (.bipush 10, 2) := by decide +kernel
theorem d_B_set_14 : decode c_B_set 14 = .ok (.if_icmp .ge 10, 3) := by decide +kernel
theorem d_B_set_17 : decode c_B_set 17 = .ok (.aload_n 0, 1) := by decide +kernel
theorem d_B_set_18 : decode c_B_set 18 = .ok (.getfield 34, 3) := by decide +kernel
theorem d_B_set_21 : decode c_B_set 21 = .ok (.ifCond .ne 5, 3) := by decide +kernel
theorem d_B_set_24 : decode c_B_set 24 = .ok (.iconst 0, 1) := by decide +kernel
theorem d_B_set_25 : decode c_B_set 25 = .ok (.ireturn, 1) := by decide +kernel
theorem d_B_set_26 : decode c_B_set 26 = .ok (.aload_n 0, 1) := by decide +kernel
theorem d_B_set_27 : decode c_B_set 27 = .ok (.getfield 11, 3) := by decide +kernel
theorem d_B_set_30 : decode c_B_set 30 = .ok (.iload_n 1, 1) := by decide +kernel
theorem d_B_set_31 : decode c_B_set 31 = .ok (.aaload, 1) := by decide +kernel
theorem d_B_set_32 : decode c_B_set 32 = .ok (.astore_n 3, 1) := by decide +kernel
theorem d_B_set_33 : decode c_B_set 33 = .ok (.aload_n 3, 1) := by decide +kernel
theorem d_B_set_34 : decode c_B_set 34 = .ok (.invokevirtual 50, 3) := by decide +kernel
theorem d_B_set_37 : decode c_B_set 37 = .ok (.iconst 1, 1) := by decide +kernel
theorem d_B_set_38 : decode c_B_set 38 = .ok (.iload_n 2, 1) := by decide +kernel
theorem d_B_set_39 : decode c_B_set 39 = .ok (.ishl, 1) := by decide +kernel
theorem d_B_set_40 : decode c_B_set 40 = .ok (.ior, 1) := by decide +kernel
theorem d_B_set_41 : decode c_B_set 41 = .ok (.istore 4, 2) := by decide +kernel
theorem d_B_set_43 : decode c_B_set 43 = .ok (.aload_n 3, 1) := by decide +kernel
theorem d_B_set_44 : decode c_B_set 44 = .ok (.iload_n 2, 1) := by decide +kernel
theorem d_B_set_45 : decode c_B_set 45 = .ok (.putfield 54, 3) := by decide +kernel
theorem d_B_set_48 : decode c_B_set 48 = .ok (.aload_n 3, 1) := by decide +kernel
theorem d_B_set_49 : decode c_B_set 49 = .ok (.getfield 57, 3) := by decide +kernel
theorem d_B_set_52 : decode c_B_set 52 = .ok (.aload_n 0, 1) := by decide +kernel
theorem d_B_set_53 : decode c_B_set 53 = .ok (.getfield 30, 3) := by decide +kernel
theorem d_B_set_56 : decode c_B_set 56 = .ok (.aload_n 0, 1) := by decide +kernel
theorem d_B_set_57 : decode c_B_set 57 = .ok (.getfield 34, 3) := by decide +kernel
theorem d_B_set_60 : decode c_B_set 60 = .ok (.invokevirtual 61, 3) := by decide +kernel
theorem d_B_set_63 : decode c_B_set 63 = .ok (.aload_n 0, 1) := by decide +kernel
theorem d_B_set_64 : decode c_B_set 64 = .ok (.iconst 0, 1) := by decide +kernel
theorem d_B_set_65 : decode c_B_set 65 = .ok (.putfield 34, 3) := by decide +kernel
theorem d_B_set_68 : decode c_B_set 68 = .ok (.aload_n 0, 1) := by decide +kernel
theorem d_B_set_69 : decode c_B_set 69 = .ok (.iload 4, 2) := by decide +kernel
theorem d_B_set_71 : decode c_B_set 71 = .ok (.invokevirtual 67, 3) := by decide +kernel
theorem d_B_set_74 : decode c_B_set 74 = .ok (.iconst 1, 1) := by decide +kernel
theorem d_B_set_75 : decode c_B_set 75 = .ok (.ireturn, 1) := by decide +kernel
theorem d_B_isCell_0 : decode c_B_isCell 0 = .ok (.iload_n 0, 1) := by decide +kernel
theorem d_B_isCell_1 : decode c_B_isCell 1 = .ok (.ifCond .lt 13, 3) := by decide +kernel
theorem d_B_isCell_4 : decode c_B_isCell 4 = .ok (.iload_n 0, 1) := by decide +kernel
theorem d_B_isCell_5 : decode c_B_isCell 5 = .ok (.bipush 10, 2) := by decide +kernel
theorem d_B_isCell_7 : decode c_B_isCell 7 = .ok (.if_icmp .ge 7, 3) := by decide +kernel
theorem d_B_isCell_10 : decode c_B_isCell 10 = .ok (.iconst 1, 1) := by decide +kernel
theorem d_B_isCell_11 : decode c_B_isCell 11 = .ok (.goto 4, 3) := by decide +kernel
theorem d_B_isCell_14 : decode c_B_isCell 14 = .ok (.iconst 0, 1) := by decide +kernel
theorem d_B_isCell_15 : decode c_B_isCell 15 = .ok (.ireturn, 1) := by decide +kernel
theorem d_Ce_nameBit_0 : decode c_Ce_nameBit 0 = .ok (.aload_n 0, 1) := by decide +kernel
theorem d_Ce_nameBit_1 : decode c_Ce_nameBit 1 = .ok (.invokevirtual 44, 3) := by decide +kernel
theorem d_Ce_nameBit_4 : decode c_Ce_nameBit 4 = .ok (.ifCond .eq 7, 3) := by decide +kernel
theorem d_Ce_nameBit_7 : decode c_Ce_nameBit 7 = .ok (.iconst 0, 1) := by decide +kernel
theorem d_Ce_nameBit_8 : decode c_Ce_nameBit 8 = .ok (.goto 9, 3) := by decide +kernel
theorem d_Ce_nameBit_11 : decode c_Ce_nameBit 11 = .ok (.iconst 1, 1) := by decide +kernel
theorem d_Ce_nameBit_12 : decode c_Ce_nameBit 12 = .ok (.aload_n 0, 1) := by decide +kernel
theorem d_Ce_nameBit_13 : decode c_Ce_nameBit 13 = .ok (.getfield 18, 3) := by decide +kernel
theorem d_Ce_nameBit_16 : decode c_Ce_nameBit 16 = .ok (.ishl, 1) := by decide +kernel
theorem d_Ce_nameBit_17 : decode c_Ce_nameBit 17 = .ok (.ireturn, 1) := by decide +kernel
theorem d_Ce_isEmpty_0 : decode c_Ce_isEmpty 0 = .ok (.aload_n 0, 1) := by decide +kernel
theorem d_Ce_isEmpty_1 : decode c_Ce_isEmpty 1 = .ok (.getfield 18, 3) := by decide +kernel
theorem d_Ce_isEmpty_4 : decode c_Ce_isEmpty 4 = .ok (.iconst (-1), 1) := by decide +kernel
theorem d_Ce_isEmpty_5 : decode c_Ce_isEmpty 5 = .ok (.if_icmp .ne 7, 3) := by decide +kernel
theorem d_Ce_isEmpty_8 : decode c_Ce_isEmpty 8 = .ok (.iconst 1, 1) := by decide +kernel
theorem d_Ce_isEmpty_9 : decode c_Ce_isEmpty 9 = .ok (.goto 4, 3) := by decide +kernel
theorem d_Ce_isEmpty_12 : decode c_Ce_isEmpty 12 = .ok (.iconst 0, 1) := by decide +kernel
theorem d_Ce_isEmpty_13 : decode c_Ce_isEmpty 13 = .ok (.ireturn, 1) := by decide +kernel
theorem d_Te_read_0 : decode c_Te_read 0 = .ok (.aload_n 0, 1) := by decide +kernel
theorem d_Te_read_1 : decode c_Te_read 1 = .ok (.iload_n 2, 1) := by decide +kernel
theorem d_Te_read_2 : decode c_Te_read 2 = .ok (.bipush 24, 2) := by decide +kernel
theorem d_Te_read_4 : decode c_Te_read 4 = .ok (.invokestatic 33, 3) := by decide +kernel
theorem d_Te_read_7 : decode c_Te_read 7 = .ok (.putfield 19, 3) := by decide +kernel
theorem d_Te_read_10 : decode c_Te_read 10 = .ok (.aload_n 1, 1) := by decide +kernel
theorem d_Te_read_11 : decode c_Te_read 11 = .ok (.iconst 0, 1) := by decide +kernel
theorem d_Te_read_12 : decode c_Te_read 12 = .ok (.aload_n 0, 1) := by decide +kernel
theorem d_Te_read_13 : decode c_Te_read 13 = .ok (.getfield 9, 3) := by decide +kernel
theorem d_Te_read_16 : decode c_Te_read 16 = .ok (.iconst 0, 1) := by decide +kernel
theorem d_Te_read_17 : decode c_Te_read 17 = .ok (.aload_n 0, 1) := by decide +kernel
theorem d_Te_read_18 : decode c_Te_read 18 = .ok (.getfield 19, 3) := by decide +kernel
theorem d_Te_read_21 : decode c_Te_read 21 = .ok (.invokestatic 39, 3) := by decide +kernel
theorem d_Te_read_24 : decode c_Te_read 24 = .ok (.aload_n 0, 1) := by decide +kernel
theorem d_Te_read_25 : decode c_Te_read 25 = .ok (.iconst 0, 1) := by decide +kernel
theorem d_Te_read_26 : decode c_Te_read 26 = .ok (.invokevirtual 45, 3) := by decide +kernel
theorem d_Te_read_29 : decode c_Te_read 29 = .ok (.bipush 92, 2) := by decide +kernel
theorem d_Te_read_31 : decode c_Te_read 31 = .ok (.if_icmp .ne 18, 3) := by decide +kernel
theorem d_Te_read_34 : decode c_Te_read 34 = .ok (.aload_n 0, 1) := by decide +kernel
theorem d_Te_read_35 : decode c_Te_read 35 = .ok (.iconst 1, 1) := by decide +kernel
theorem d_Te_read_36 : decode c_Te_read 36 = .ok (.invokevirtual 45, 3) := by decide +kernel
theorem d_Te_read_39 : decode c_Te_read 39 = .ok (.invokestatic 49, 3) := by decide +kernel
theorem d_Te_read_42 : decode c_Te_read 42 = .ok (.ifCond .eq 7, 3) := by decide +kernel
theorem d_Te_read_45 : decode c_Te_read 45 = .ok (.iconst 1, 1) := by decide +kernel
theorem d_Te_read_46 : decode c_Te_read 46 = .ok (.goto 4, 3) := by decide +kernel
theorem d_Te_read_49 : decode c_Te_read 49 = .ok (.iconst 0, 1) := by decide +kernel
theorem d_Te_read_50 : decode c_Te_read 50 = .ok (.istore_n 3, 1) := by decide +kernel
theorem d_Te_read_51 : decode c_Te_read 51 = .ok (.aload_n 0, 1) := by decide +kernel
theorem d_Te_read_52 : decode c_Te_read 52 = .ok (.iload_n 3, 1) := by decide +kernel
theorem d_Te_read_53 : decode c_Te_read 53 = .ok (.ifCond .eq 7, 3) := by decide +kernel
theorem d_Te_read_56 : decode c_Te_read 56 = .ok (.iconst 2, 1) := by decide +kernel
theorem d_Te_read_57 : decode c_Te_read 57 = .ok (.goto 4, 3) := by decide +kernel
theorem d_Te_read_60 : decode c_Te_read 60 = .ok (.iconst 0, 1) := by decide +kernel
theorem d_Te_read_61 : decode c_Te_read 61 = .ok (.putfield 23, 3) := by decide +kernel
theorem d_Te_read_64 : decode c_Te_read 64 = .ok (.aload_n 0, 1) := by decide +kernel
theorem d_Te_read_65 : decode c_Te_read 65 = .ok (.iconst 0, 1) := by decide +kernel
theorem d_Te_read_66 : decode c_Te_read 66 = .ok (.putfield 30, 3) := by decide +kernel
theorem d_Te_read_69 : decode c_Te_read 69 = .ok (.aload_n 0, 1) := by decide +kernel
theorem d_Te_read_70 : decode c_Te_read 70 = .ok (.aload_n 0, 1) := by decide +kernel
theorem d_Te_read_71 : decode c_Te_read 71 = .ok (.aload_n 0, 1) := by decide +kernel
theorem d_Te_read_72 : decode c_Te_read 72 = .ok (.getfield 23, 3) := by decide +kernel
theorem d_Te_read_75 : decode c_Te_read 75 = .ok (.iconst 0, 1) := by decide +kernel
theorem d_Te_read_76 : decode c_Te_read 76 = .ok (.iload_n 3, 1) := by decide +kernel
theorem d_Te_read_77 : decode c_Te_read 77 = .ok (.ifCond .eq 13, 3) := by decide +kernel
theorem d_Te_read_80 : decode c_Te_read 80 = .ok (.iconst 1, 1) := by decide +kernel
theorem d_Te_read_81 : decode c_Te_read 81 = .ok (.aload_n 0, 1) := by decide +kernel
theorem d_Te_read_82 : decode c_Te_read 82 = .ok (.iconst 1, 1) := by decide +kernel
theorem d_Te_read_83 : decode c_Te_read 83 = .ok (.invokevirtual 53, 3) := by decide +kernel
theorem d_Te_read_86 : decode c_Te_read 86 = .ok (.ishl, 1) := by decide +kernel
theorem d_Te_read_87 : decode c_Te_read 87 = .ok (.goto 4, 3) := by decide +kernel
theorem d_Te_read_90 : decode c_Te_read 90 = .ok (.iconst 0, 1) := by decide +kernel
theorem d_Te_read_91 : decode c_Te_read 91 = .ok (.invokevirtual 57, 3) := by decide +kernel
theorem d_Te_read_94 : decode c_Te_read 94 = .ok (.aload_n 0, 1) := by decide +kernel
theorem d_Te_read_95 : decode c_Te_read 95 = .ok (.getfield 19, 3) := by decide +kernel
theorem d_Te_read_98 : decode c_Te_read 98 = .ok (.if_icmp .ne 7, 3) := by decide +kernel
theorem d_Te_read_101 : decode c_Te_read 101 = .ok (.iconst 1, 1) := by decide +kernel
theorem d_Te_read_102 : decode c_Te_read 102 = .ok (.goto 4, 3) := by decide +kernel
theorem d_Te_read_105 : decode c_Te_read 105 = .ok (.iconst 0, 1) := by decide +kernel
theorem d_Te_read_106 : decode c_Te_read 106 = .ok (.putfield 26, 3) := by decide +kernel
theorem d_Te_read_109 : decode c_Te_read 109 = .ok (.aload_n 0, 1) := by decide +kernel
theorem d_Te_read_110 : decode c_Te_read 110 = .ok (.getfield 26, 3) := by decide +kernel
theorem d_Te_read_113 : decode c_Te_read 113 = .ok (.ifCond .ne 8, 3) := by decide +kernel
theorem d_Te_read_116 : decode c_Te_read 116 = .ok (.aload_n 0, 1) := by decide +kernel
theorem d_Te_read_117 : decode c_Te_read 117 = .ok (.iconst 0, 1) := by decide +kernel
theorem d_Te_read_118 : decode c_Te_read 118 = .ok (.putfield 30, 3) := by decide +kernel
theorem d_Te_read_121 : decode c_Te_read 121 = .ok (.return_, 1) := by decide +kernel
theorem d_Te_signAt_0 : decode c_Te_signAt 0 = .ok (.iload_n 1, 1) := by decide +kernel
theorem d_Te_signAt_1 : decode c_Te_signAt 1 = .ok (.ifCond .lt 20, 3) := by decide +kernel
theorem d_Te_signAt_4 : decode c_Te_signAt 4 = .ok (.iload_n 1, 1) := by decide +kernel
theorem d_Te_signAt_5 : decode c_Te_signAt 5 = .ok (.aload_n 0, 1) := by decide +kernel
theorem d_Te_signAt_6 : decode c_Te_signAt 6 = .ok (.getfield 19, 3) := by decide +kernel
theorem d_Te_signAt_9 : decode c_Te_signAt 9 = .ok (.if_icmp .ge 12, 3) := by decide +kernel
theorem d_Te_signAt_12 : decode c_Te_signAt 12 = .ok (.aload_n 0, 1) := by decide +kernel
theorem d_Te_signAt_13 : decode c_Te_signAt 13 = .ok (.getfield 9, 3) := by decide +kernel
theorem d_Te_signAt_16 : decode c_Te_signAt 16 = .ok (.iload_n 1, 1) := by decide +kernel
theorem d_Te_signAt_17 : decode c_Te_signAt 17 = .ok (.caload, 1) := by decide +kernel
theorem d_Te_signAt_18 : decode c_Te_signAt 18 = .ok (.goto 4, 3) := by decide +kernel
theorem d_Te_signAt_21 : decode c_Te_signAt 21 = .ok (.iconst 0, 1) := by decide +kernel
theorem d_Te_signAt_22 : decode c_Te_signAt 22 = .ok (.ireturn, 1) := by decide +kernel
theorem d_B_isLocal_0 : decode c_B_isLocal 0 = .ok (.iload_n 0, 1) := by decide +kernel
theorem d_B_isLocal_1 : decode c_B_isLocal 1 = .ok (.bipush 107, 2) := by decide +kernel
theorem d_B_isLocal_3 : decode c_B_isLocal 3 = .ok (.if_icmp .lt 13, 3) := by decide +kernel
theorem d_B_isLocal_6 : decode c_B_isLocal 6 = .ok (.iload_n 0, 1) := by decide +kernel
theorem d_B_isLocal_7 : decode c_B_isLocal 7 = .ok (.bipush 112, 2) := by decide +kernel
theorem d_B_isLocal_9 : decode c_B_isLocal 9 = .ok (.if_icmp .gt 7, 3) := by decide +kernel
theorem d_B_isLocal_12 : decode c_B_isLocal 12 = .ok (.iconst 1, 1) := by decide +kernel
theorem d_B_isLocal_13 : decode c_B_isLocal 13 = .ok (.goto 4, 3) := by decide +kernel
theorem d_B_isLocal_16 : decode c_B_isLocal 16 = .ok (.iconst 0, 1) := by decide +kernel
theorem d_B_isLocal_17 : decode c_B_isLocal 17 = .ok (.ireturn, 1) := by decide +kernel
theorem d_Te_localAt_0 : decode c_Te_localAt 0 = .ok (.aload_n 0, 1) := by decide +kernel
theorem d_Te_localAt_1 : decode c_Te_localAt 1 = .ok (.iload_n 1, 1) := by decide +kernel
theorem d_Te_localAt_2 : decode c_Te_localAt 2 = .ok (.invokevirtual 45, 3) := by decide +kernel
theorem d_Te_localAt_5 : decode c_Te_localAt 5 = .ok (.istore_n 2, 1) := by decide +kernel
theorem d_Te_localAt_6 : decode c_Te_localAt 6 = .ok (.iload_n 2, 1) := by decide +kernel
theorem d_Te_localAt_7 : decode c_Te_localAt 7 = .ok (.invokestatic 49, 3) := by decide +kernel
theorem d_Te_localAt_10 : decode c_Te_localAt 10 = .ok (.ifCond .eq 10, 3) := by decide +kernel
theorem d_Te_localAt_13 : decode c_Te_localAt 13 = .ok (.iload_n 2, 1) := by decide +kernel
theorem d_Te_localAt_14 : decode c_Te_localAt 14 = .ok (.bipush 107, 2) := by decide +kernel
theorem d_Te_localAt_16 : decode c_Te_localAt 16 = .ok (.isub, 1) := by decide +kernel
theorem d_Te_localAt_17 : decode c_Te_localAt 17 = .ok (.goto 4, 3) := by decide +kernel
theorem d_Te_localAt_20 : decode c_Te_localAt 20 = .ok (.iconst 0, 1) := by decide +kernel
theorem d_Te_localAt_21 : decode c_Te_localAt 21 = .ok (.ireturn, 1) := by decide +kernel
theorem d_Te_readExpression_0 : decode c_Te_readExpression 0 = .ok (.iload_n 1, 1) := by decide +kernel
theorem d_Te_readExpression_1 : decode c_Te_readExpression 1 = .ok (.ifCond .lt 16, 3) := by decide +kernel
theorem d_Te_readExpression_4 : decode c_Te_readExpression 4 = .ok (.iload_n 1, 1) := by decide +kernel
theorem d_Te_readExpression_5 : decode c_Te_readExpression 5 = .ok (.aload_n 0, 1) := by decide +kernel
theorem d_Te_readExpression_6 : decode c_Te_readExpression 6 = .ok (.getfield 19, 3) := by decide +kernel
theorem d_Te_readExpression_9 : decode c_Te_readExpression 9 = .ok (.if_icmp .ge 8, 3) := by decide +kernel
theorem d_Te_readExpression_12 : decode c_Te_readExpression 12 = .ok (.iload_n 2, 1) := by decide +kernel
theorem d_Te_readExpression_13 : decode c_Te_readExpression 13 = .ok (.iconst 5, 1) := by decide +kernel
theorem d_Te_readExpression_14 : decode c_Te_readExpression 14 = .ok (.if_icmp .le 5, 3) := by decide +kernel
theorem d_Te_readExpression_17 : decode c_Te_readExpression 17 = .ok (.iconst (-1), 1) := by decide +kernel
theorem d_Te_readExpression_18 : decode c_Te_readExpression 18 = .ok (.ireturn, 1) := by decide +kernel
theorem d_Te_readExpression_19 : decode c_Te_readExpression 19 = .ok (.aload_n 0, 1) := by decide +kernel
theorem d_Te_readExpression_20 : decode c_Te_readExpression 20 = .ok (.iload_n 1, 1) := by decide +kernel
theorem d_Te_readExpression_21 : decode c_Te_readExpression 21 = .ok (.iload_n 2, 1) := by decide +kernel
theorem d_Te_readExpression_22 : decode c_Te_readExpression 22 = .ok (.iconst 1, 1) := by decide +kernel
theorem d_Te_readExpression_23 : decode c_Te_readExpression 23 = .ok (.iadd, 1) := by decide +kernel
theorem d_Te_readExpression_24 : decode c_Te_readExpression 24 = .ok (.iload_n 3, 1) := by decide +kernel
theorem d_Te_readExpression_25 : decode c_Te_readExpression 25 = .ok (.invokevirtual 61, 3) := by decide +kernel
theorem d_Te_readExpression_28 : decode c_Te_readExpression 28 = .ok (.istore 4, 2) := by decide +kernel
theorem d_Te_readExpression_30 : decode c_Te_readExpression 30 = .ok (.aload_n 0, 1) := by decide +kernel
theorem d_Te_readExpression_31 : decode c_Te_readExpression 31 = .ok (.getfield 15, 3) := by decide +kernel
theorem d_Te_readExpression_34 : decode c_Te_readExpression 34 = .ok (.iload_n 1, 1) := by decide +kernel
theorem d_Te_readExpression_35 : decode c_Te_readExpression 35 = .ok (.iload 4, 2) := by decide +kernel
theorem d_Te_readExpression_37 : decode c_Te_readExpression 37 = .ok (.iastore, 1) := by decide +kernel
theorem d_Te_readExpression_38 : decode c_Te_readExpression 38 = .ok (.iload 4, 2) := by decide +kernel
theorem d_Te_readExpression_40 : decode c_Te_readExpression 40 = .ok (.ireturn, 1) := by decide +kernel
theorem d_Te_readSign_0 : decode c_Te_readSign 0 = .ok (.aload_n 0, 1) := by decide +kernel
theorem d_Te_readSign_1 : decode c_Te_readSign 1 = .ok (.getfield 9, 3) := by decide +kernel
theorem d_Te_readSign_4 : decode c_Te_readSign 4 = .ok (.iload_n 1, 1) := by decide +kernel
theorem d_Te_readSign_5 : decode c_Te_readSign 5 = .ok (.caload, 1) := by decide +kernel
theorem d_Te_readSign_6 : decode c_Te_readSign 6 = .ok (.lookupswitch 180 #[(33, 147), (35, 172), (36, 139), (38, 106), (42, 106), (43, 106), (45, 106), (47, 106), (60, 106), (61, 106), (63, 128), (126, 117)], 106) := by decide +kernel
theorem d_Te_readSign_112 : decode c_Te_readSign 112 = .ok (.aload_n 0, 1) := by decide +kernel
theorem d_Te_readSign_113 : decode c_Te_readSign 113 = .ok (.iload_n 1, 1) := by decide +kernel
theorem d_Te_readSign_114 : decode c_Te_readSign 114 = .ok (.iconst 1, 1) := by decide +kernel
theorem d_Te_readSign_115 : decode c_Te_readSign 115 = .ok (.iadd, 1) := by decide +kernel
theorem d_Te_readSign_116 : decode c_Te_readSign 116 = .ok (.iconst 2, 1) := by decide +kernel
theorem d_Te_readSign_117 : decode c_Te_readSign 117 = .ok (.iload_n 2, 1) := by decide +kernel
theorem d_Te_readSign_118 : decode c_Te_readSign 118 = .ok (.iload_n 3, 1) := by decide +kernel
theorem d_Te_readSign_119 : decode c_Te_readSign 119 = .ok (.invokevirtual 64, 3) := by decide +kernel
theorem d_Te_readSign_122 : decode c_Te_readSign 122 = .ok (.ireturn, 1) := by decide +kernel
theorem d_Te_readSign_123 : decode c_Te_readSign 123 = .ok (.aload_n 0, 1) := by decide +kernel
theorem d_Te_readSign_124 : decode c_Te_readSign 124 = .ok (.iload_n 1, 1) := by decide +kernel
theorem d_Te_readSign_125 : decode c_Te_readSign 125 = .ok (.iconst 1, 1) := by decide +kernel
theorem d_Te_readSign_126 : decode c_Te_readSign 126 = .ok (.iadd, 1) := by decide +kernel
theorem d_Te_readSign_127 : decode c_Te_readSign 127 = .ok (.iconst 1, 1) := by decide +kernel
theorem d_Te_readSign_128 : decode c_Te_readSign 128 = .ok (.iload_n 2, 1) := by decide +kernel
theorem d_Te_readSign_129 : decode c_Te_readSign 129 = .ok (.iload_n 3, 1) := by decide +kernel
theorem d_Te_readSign_130 : decode c_Te_readSign 130 = .ok (.invokevirtual 64, 3) := by decide +kernel
theorem d_Te_readSign_133 : decode c_Te_readSign 133 = .ok (.ireturn, 1) := by decide +kernel
theorem d_Te_readSign_134 : decode c_Te_readSign 134 = .ok (.aload_n 0, 1) := by decide +kernel
theorem d_Te_readSign_135 : decode c_Te_readSign 135 = .ok (.iload_n 1, 1) := by decide +kernel
theorem d_Te_readSign_136 : decode c_Te_readSign 136 = .ok (.iconst 1, 1) := by decide +kernel
theorem d_Te_readSign_137 : decode c_Te_readSign 137 = .ok (.iadd, 1) := by decide +kernel
theorem d_Te_readSign_138 : decode c_Te_readSign 138 = .ok (.iconst 3, 1) := by decide +kernel
theorem d_Te_readSign_139 : decode c_Te_readSign 139 = .ok (.iload_n 2, 1) := by decide +kernel
theorem d_Te_readSign_140 : decode c_Te_readSign 140 = .ok (.iload_n 3, 1) := by decide +kernel
theorem d_Te_readSign_141 : decode c_Te_readSign 141 = .ok (.invokevirtual 64, 3) := by decide +kernel
theorem d_Te_readSign_144 : decode c_Te_readSign 144 = .ok (.ireturn, 1) := by decide +kernel
theorem d_Te_readSign_145 : decode c_Te_readSign 145 = .ok (.aload_n 0, 1) := by decide +kernel
theorem d_Te_readSign_146 : decode c_Te_readSign 146 = .ok (.iload_n 1, 1) := by decide +kernel
theorem d_Te_readSign_147 : decode c_Te_readSign 147 = .ok (.iload_n 2, 1) := by decide +kernel
theorem d_Te_readSign_148 : decode c_Te_readSign 148 = .ok (.iload_n 3, 1) := by decide +kernel
theorem d_Te_readSign_149 : decode c_Te_readSign 149 = .ok (.invokevirtual 68, 3) := by decide +kernel
theorem d_Te_readSign_152 : decode c_Te_readSign 152 = .ok (.ireturn, 1) := by decide +kernel
theorem d_Te_readSign_153 : decode c_Te_readSign 153 = .ok (.aload_n 0, 1) := by decide +kernel
theorem d_Te_readSign_154 : decode c_Te_readSign 154 = .ok (.iload_n 1, 1) := by decide +kernel
theorem d_Te_readSign_155 : decode c_Te_readSign 155 = .ok (.iconst 1, 1) := by decide +kernel
theorem d_Te_readSign_156 : decode c_Te_readSign 156 = .ok (.iadd, 1) := by decide +kernel
theorem d_Te_readSign_157 : decode c_Te_readSign 157 = .ok (.invokevirtual 71, 3) := by decide +kernel
theorem d_Te_readSign_160 : decode c_Te_readSign 160 = .ok (.iconst (-1), 1) := by decide +kernel
theorem d_Te_readSign_161 : decode c_Te_readSign 161 = .ok (.if_icmp .ne 7, 3) := by decide +kernel
theorem d_Te_readSign_164 : decode c_Te_readSign 164 = .ok (.iconst (-1), 1) := by decide +kernel
theorem d_Te_readSign_165 : decode c_Te_readSign 165 = .ok (.goto 12, 3) := by decide +kernel
theorem d_Te_readSign_168 : decode c_Te_readSign 168 = .ok (.aload_n 0, 1) := by decide +kernel
theorem d_Te_readSign_169 : decode c_Te_readSign 169 = .ok (.iload_n 1, 1) := by decide +kernel
theorem d_Te_readSign_170 : decode c_Te_readSign 170 = .ok (.iconst 2, 1) := by decide +kernel
theorem d_Te_readSign_171 : decode c_Te_readSign 171 = .ok (.iadd, 1) := by decide +kernel
theorem d_Te_readSign_172 : decode c_Te_readSign 172 = .ok (.iload_n 2, 1) := by decide +kernel
theorem d_Te_readSign_173 : decode c_Te_readSign 173 = .ok (.iload_n 3, 1) := by decide +kernel
theorem d_Te_readSign_174 : decode c_Te_readSign 174 = .ok (.invokevirtual 57, 3) := by decide +kernel
theorem d_Te_readSign_177 : decode c_Te_readSign 177 = .ok (.ireturn, 1) := by decide +kernel
theorem d_Te_readSign_178 : decode c_Te_readSign 178 = .ok (.aload_n 0, 1) := by decide +kernel
theorem d_Te_readSign_179 : decode c_Te_readSign 179 = .ok (.iload_n 1, 1) := by decide +kernel
theorem d_Te_readSign_180 : decode c_Te_readSign 180 = .ok (.iload_n 2, 1) := by decide +kernel
theorem d_Te_readSign_181 : decode c_Te_readSign 181 = .ok (.iload_n 3, 1) := by decide +kernel
theorem d_Te_readSign_182 : decode c_Te_readSign 182 = .ok (.invokevirtual 74, 3) := by decide +kernel
theorem d_Te_readSign_185 : decode c_Te_readSign 185 = .ok (.ireturn, 1) := by decide +kernel
theorem d_Te_readSign_186 : decode c_Te_readSign 186 = .ok (.aload_n 0, 1) := by decide +kernel
theorem d_Te_readSign_187 : decode c_Te_readSign 187 = .ok (.iload_n 1, 1) := by decide +kernel
theorem d_Te_readSign_188 : decode c_Te_readSign 188 = .ok (.iload_n 3, 1) := by decide +kernel
theorem d_Te_readSign_189 : decode c_Te_readSign 189 = .ok (.invokevirtual 77, 3) := by decide +kernel
theorem d_Te_readSign_192 : decode c_Te_readSign 192 = .ok (.ireturn, 1) := by decide +kernel
theorem d_Te_readExpressions_0 : decode c_Te_readExpressions 0 = .ok (.iload_n 1, 1) := by decide +kernel
theorem d_Te_readExpressions_1 : decode c_Te_readExpressions 1 = .ok (.istore 5, 2) := by decide +kernel
theorem d_Te_readExpressions_3 : decode c_Te_readExpressions 3 = .ok (.iconst 0, 1) := by decide +kernel
theorem d_Te_readExpressions_4 : decode c_Te_readExpressions 4 = .ok (.istore 6, 2) := by decide +kernel
theorem d_Te_readExpressions_6 : decode c_Te_readExpressions 6 = .ok (.iload 6, 2) := by decide +kernel
theorem d_Te_readExpressions_8 : decode c_Te_readExpressions 8 = .ok (.iload_n 2, 1) := by decide +kernel
theorem d_Te_readExpressions_9 : decode c_Te_readExpressions 9 = .ok (.if_icmp .ge 20, 3) := by decide +kernel
theorem d_Te_readExpressions_12 : decode c_Te_readExpressions 12 = .ok (.aload_n 0, 1) := by decide +kernel
theorem d_Te_readExpressions_13 : decode c_Te_readExpressions 13 = .ok (.iload 5, 2) := by decide +kernel
theorem d_Te_readExpressions_15 : decode c_Te_readExpressions 15 = .ok (.iload_n 3, 1) := by decide +kernel
theorem d_Te_readExpressions_16 : decode c_Te_readExpressions 16 = .ok (.iload 4, 2) := by decide +kernel
theorem d_Te_readExpressions_18 : decode c_Te_readExpressions 18 = .ok (.invokevirtual 57, 3) := by decide +kernel
theorem d_Te_readExpressions_21 : decode c_Te_readExpressions 21 = .ok (.istore 5, 2) := by decide +kernel
theorem d_Te_readExpressions_23 : decode c_Te_readExpressions 23 = .ok (.iinc 6 1, 3) := by decide +kernel
theorem d_Te_readExpressions_26 : decode c_Te_readExpressions 26 = .ok (.goto (-20), 3) := by decide +kernel
theorem d_Te_readExpressions_29 : decode c_Te_readExpressions 29 = .ok (.iload 5, 2) := by decide +kernel
theorem d_Te_readExpressions_31 : decode c_Te_readExpressions 31 = .ok (.ireturn, 1) := by decide +kernel
theorem d_Te_readBinding_0 : decode c_Te_readBinding 0 = .ok (.aload_n 0, 1) := by decide +kernel
theorem d_Te_readBinding_1 : decode c_Te_readBinding 1 = .ok (.iload_n 1, 1) := by decide +kernel
theorem d_Te_readBinding_2 : decode c_Te_readBinding 2 = .ok (.iconst 1, 1) := by decide +kernel
theorem d_Te_readBinding_3 : decode c_Te_readBinding 3 = .ok (.iadd, 1) := by decide +kernel
theorem d_Te_readBinding_4 : decode c_Te_readBinding 4 = .ok (.invokevirtual 45, 3) := by decide +kernel
theorem d_Te_readBinding_7 : decode c_Te_readBinding 7 = .ok (.istore 4, 2) := by decide +kernel
theorem d_Te_readBinding_9 : decode c_Te_readBinding 9 = .ok (.iload 4, 2) := by decide +kernel
theorem d_Te_readBinding_11 : decode c_Te_readBinding 11 = .ok (.invokestatic 49, 3) := by decide +kernel
theorem d_Te_readBinding_14 : decode c_Te_readBinding 14 = .ok (.ifCond .ne 5, 3) := by decide +kernel
theorem d_Te_readBinding_17 : decode c_Te_readBinding 17 = .ok (.iconst (-1), 1) := by decide +kernel
theorem d_Te_readBinding_18 : decode c_Te_readBinding 18 = .ok (.ireturn, 1) := by decide +kernel
theorem d_Te_readBinding_19 : decode c_Te_readBinding 19 = .ok (.aload_n 0, 1) := by decide +kernel
theorem d_Te_readBinding_20 : decode c_Te_readBinding 20 = .ok (.iload_n 1, 1) := by decide +kernel
theorem d_Te_readBinding_21 : decode c_Te_readBinding 21 = .ok (.iconst 2, 1) := by decide +kernel
theorem d_Te_readBinding_22 : decode c_Te_readBinding 22 = .ok (.iadd, 1) := by decide +kernel
theorem d_Te_readBinding_23 : decode c_Te_readBinding 23 = .ok (.iload_n 2, 1) := by decide +kernel
theorem d_Te_readBinding_24 : decode c_Te_readBinding 24 = .ok (.iload_n 3, 1) := by decide +kernel
theorem d_Te_readBinding_25 : decode c_Te_readBinding 25 = .ok (.invokevirtual 57, 3) := by decide +kernel
theorem d_Te_readBinding_28 : decode c_Te_readBinding 28 = .ok (.istore 5, 2) := by decide +kernel
theorem d_Te_readBinding_30 : decode c_Te_readBinding 30 = .ok (.aload_n 0, 1) := by decide +kernel
theorem d_Te_readBinding_31 : decode c_Te_readBinding 31 = .ok (.iload 5, 2) := by decide +kernel
theorem d_Te_readBinding_33 : decode c_Te_readBinding 33 = .ok (.iload_n 2, 1) := by decide +kernel
theorem d_Te_readBinding_34 : decode c_Te_readBinding 34 = .ok (.iload_n 3, 1) := by decide +kernel
theorem d_Te_readBinding_35 : decode c_Te_readBinding 35 = .ok (.iconst 1, 1) := by decide +kernel
theorem d_Te_readBinding_36 : decode c_Te_readBinding 36 = .ok (.iload 4, 2) := by decide +kernel
theorem d_Te_readBinding_38 : decode c_Te_readBinding 38 = .ok (.bipush 107, 2) := by decide +kernel
theorem d_Te_readBinding_40 : decode c_Te_readBinding 40 = .ok (.isub, 1) := by decide +kernel
theorem d_Te_readBinding_41 : decode c_Te_readBinding 41 = .ok (.ishl, 1) := by decide +kernel
theorem d_Te_readBinding_42 : decode c_Te_readBinding 42 = .ok (.ior, 1) := by decide +kernel
theorem d_Te_readBinding_43 : decode c_Te_readBinding 43 = .ok (.invokevirtual 57, 3) := by decide +kernel
theorem d_Te_readBinding_46 : decode c_Te_readBinding 46 = .ok (.ireturn, 1) := by decide +kernel
theorem d_Te_readName_0 : decode c_Te_readName 0 = .ok (.aload_n 0, 1) := by decide +kernel
theorem d_Te_readName_1 : decode c_Te_readName 1 = .ok (.iload_n 1, 1) := by decide +kernel
theorem d_Te_readName_2 : decode c_Te_readName 2 = .ok (.invokevirtual 45, 3) := by decide +kernel
theorem d_Te_readName_5 : decode c_Te_readName 5 = .ok (.istore_n 2, 1) := by decide +kernel
theorem d_Te_readName_6 : decode c_Te_readName 6 = .ok (.iload_n 2, 1) := by decide +kernel
theorem d_Te_readName_7 : decode c_Te_readName 7 = .ok (.invokestatic 87, 3) := by decide +kernel
theorem d_Te_readName_10 : decode c_Te_readName 10 = .ok (.ifCond .ne 5, 3) := by decide +kernel
theorem d_Te_readName_13 : decode c_Te_readName 13 = .ok (.iconst (-1), 1) := by decide +kernel
theorem d_Te_readName_14 : decode c_Te_readName 14 = .ok (.ireturn, 1) := by decide +kernel
theorem d_Te_readName_15 : decode c_Te_readName 15 = .ok (.aload_n 0, 1) := by decide +kernel
theorem d_Te_readName_16 : decode c_Te_readName 16 = .ok (.dup, 1) := by decide +kernel
theorem d_Te_readName_17 : decode c_Te_readName 17 = .ok (.getfield 30, 3) := by decide +kernel
theorem d_Te_readName_20 : decode c_Te_readName 20 = .ok (.iconst 1, 1) := by decide +kernel
theorem d_Te_readName_21 : decode c_Te_readName 21 = .ok (.iload_n 2, 1) := by decide +kernel
theorem d_Te_readName_22 : decode c_Te_readName 22 = .ok (.bipush 97, 2) := by decide +kernel
theorem d_Te_readName_24 : decode c_Te_readName 24 = .ok (.isub, 1) := by decide +kernel
theorem d_Te_readName_25 : decode c_Te_readName 25 = .ok (.ishl, 1) := by decide +kernel
theorem d_Te_readName_26 : decode c_Te_readName 26 = .ok (.ior, 1) := by decide +kernel
theorem d_Te_readName_27 : decode c_Te_readName 27 = .ok (.putfield 30, 3) := by decide +kernel
theorem d_Te_readName_30 : decode c_Te_readName 30 = .ok (.iload_n 1, 1) := by decide +kernel
theorem d_Te_readName_31 : decode c_Te_readName 31 = .ok (.iconst 1, 1) := by decide +kernel
theorem d_Te_readName_32 : decode c_Te_readName 32 = .ok (.iadd, 1) := by decide +kernel
theorem d_Te_readName_33 : decode c_Te_readName 33 = .ok (.ireturn, 1) := by decide +kernel
theorem d_B_isName_0 : decode c_B_isName 0 = .ok (.iload_n 0, 1) := by decide +kernel
theorem d_B_isName_1 : decode c_B_isName 1 = .ok (.bipush 97, 2) := by decide +kernel
theorem d_B_isName_3 : decode c_B_isName 3 = .ok (.if_icmp .lt 13, 3) := by decide +kernel
theorem d_B_isName_6 : decode c_B_isName 6 = .ok (.iload_n 0, 1) := by decide +kernel
theorem d_B_isName_7 : decode c_B_isName 7 = .ok (.bipush 106, 2) := by decide +kernel
theorem d_B_isName_9 : decode c_B_isName 9 = .ok (.if_icmp .gt 7, 3) := by decide +kernel
theorem d_B_isName_12 : decode c_B_isName 12 = .ok (.iconst 1, 1) := by decide +kernel
theorem d_B_isName_13 : decode c_B_isName 13 = .ok (.goto 4, 3) := by decide +kernel
theorem d_B_isName_16 : decode c_B_isName 16 = .ok (.iconst 0, 1) := by decide +kernel
theorem d_B_isName_17 : decode c_B_isName 17 = .ok (.ireturn, 1) := by decide +kernel
theorem d_Te_readMatch_0 : decode c_Te_readMatch 0 = .ok (.aload_n 0, 1) := by decide +kernel
theorem d_Te_readMatch_1 : decode c_Te_readMatch 1 = .ok (.iload_n 1, 1) := by decide +kernel
theorem d_Te_readMatch_2 : decode c_Te_readMatch 2 = .ok (.iconst 1, 1) := by decide +kernel
theorem d_Te_readMatch_3 : decode c_Te_readMatch 3 = .ok (.iadd, 1) := by decide +kernel
theorem d_Te_readMatch_4 : decode c_Te_readMatch 4 = .ok (.iload_n 2, 1) := by decide +kernel
theorem d_Te_readMatch_5 : decode c_Te_readMatch 5 = .ok (.iload_n 3, 1) := by decide +kernel
theorem d_Te_readMatch_6 : decode c_Te_readMatch 6 = .ok (.invokevirtual 57, 3) := by decide +kernel
theorem d_Te_readMatch_9 : decode c_Te_readMatch 9 = .ok (.istore 4, 2) := by decide +kernel
theorem d_Te_readMatch_11 : decode c_Te_readMatch 11 = .ok (.iconst 0, 1) := by decide +kernel
theorem d_Te_readMatch_12 : decode c_Te_readMatch 12 = .ok (.istore 5, 2) := by decide +kernel
theorem d_Te_readMatch_14 : decode c_Te_readMatch 14 = .ok (.iload 5, 2) := by decide +kernel
theorem d_Te_readMatch_16 : decode c_Te_readMatch 16 = .ok (.iconst 2, 1) := by decide +kernel
theorem d_Te_readMatch_17 : decode c_Te_readMatch 17 = .ok (.if_icmp .ge 35, 3) := by decide +kernel
theorem d_Te_readMatch_20 : decode c_Te_readMatch 20 = .ok (.aload_n 0, 1) := by decide +kernel
theorem d_Te_readMatch_21 : decode c_Te_readMatch 21 = .ok (.iload 4, 2) := by decide +kernel
theorem d_Te_readMatch_23 : decode c_Te_readMatch 23 = .ok (.invokevirtual 45, 3) := by decide +kernel
theorem d_Te_readMatch_26 : decode c_Te_readMatch 26 = .ok (.invokestatic 80, 3) := by decide +kernel
theorem d_Te_readMatch_29 : decode c_Te_readMatch 29 = .ok (.ifCond .ne 5, 3) := by decide +kernel
theorem d_Te_readMatch_32 : decode c_Te_readMatch 32 = .ok (.iconst (-1), 1) := by decide +kernel
theorem d_Te_readMatch_33 : decode c_Te_readMatch 33 = .ok (.ireturn, 1) := by decide +kernel
theorem d_Te_readMatch_34 : decode c_Te_readMatch 34 = .ok (.aload_n 0, 1) := by decide +kernel
theorem d_Te_readMatch_35 : decode c_Te_readMatch 35 = .ok (.iload 4, 2) := by decide +kernel
theorem d_Te_readMatch_37 : decode c_Te_readMatch 37 = .ok (.iconst 1, 1) := by decide +kernel
theorem d_Te_readMatch_38 : decode c_Te_readMatch 38 = .ok (.iadd, 1) := by decide +kernel
theorem d_Te_readMatch_39 : decode c_Te_readMatch 39 = .ok (.iload_n 2, 1) := by decide +kernel
theorem d_Te_readMatch_40 : decode c_Te_readMatch 40 = .ok (.iload_n 3, 1) := by decide +kernel
theorem d_Te_readMatch_41 : decode c_Te_readMatch 41 = .ok (.invokevirtual 57, 3) := by decide +kernel
theorem d_Te_readMatch_44 : decode c_Te_readMatch 44 = .ok (.istore 4, 2) := by decide +kernel
theorem d_Te_readMatch_46 : decode c_Te_readMatch 46 = .ok (.iinc 5 1, 3) := by decide +kernel
theorem d_Te_readMatch_49 : decode c_Te_readMatch 49 = .ok (.goto (-35), 3) := by decide +kernel
theorem d_Te_readMatch_52 : decode c_Te_readMatch 52 = .ok (.iload 4, 2) := by decide +kernel
theorem d_Te_readMatch_54 : decode c_Te_readMatch 54 = .ok (.ireturn, 1) := by decide +kernel
theorem d_B_isDigit_0 : decode c_B_isDigit 0 = .ok (.iload_n 0, 1) := by decide +kernel
theorem d_B_isDigit_1 : decode c_B_isDigit 1 = .ok (.bipush 48, 2) := by decide +kernel
theorem d_B_isDigit_3 : decode c_B_isDigit 3 = .ok (.if_icmp .lt 13, 3) := by decide +kernel
theorem d_B_isDigit_6 : decode c_B_isDigit 6 = .ok (.iload_n 0, 1) := by decide +kernel
theorem d_B_isDigit_7 : decode c_B_isDigit 7 = .ok (.bipush 57, 2) := by decide +kernel
theorem d_B_isDigit_9 : decode c_B_isDigit 9 = .ok (.if_icmp .gt 7, 3) := by decide +kernel
theorem d_B_isDigit_12 : decode c_B_isDigit 12 = .ok (.iconst 1, 1) := by decide +kernel
theorem d_B_isDigit_13 : decode c_B_isDigit 13 = .ok (.goto 4, 3) := by decide +kernel
theorem d_B_isDigit_16 : decode c_B_isDigit 16 = .ok (.iconst 0, 1) := by decide +kernel
theorem d_B_isDigit_17 : decode c_B_isDigit 17 = .ok (.ireturn, 1) := by decide +kernel
theorem d_Te_readLeaf_0 : decode c_Te_readLeaf 0 = .ok (.aload_n 0, 1) := by decide +kernel
theorem d_Te_readLeaf_1 : decode c_Te_readLeaf 1 = .ok (.iload_n 1, 1) := by decide +kernel
theorem d_Te_readLeaf_2 : decode c_Te_readLeaf 2 = .ok (.invokevirtual 45, 3) := by decide +kernel
theorem d_Te_readLeaf_5 : decode c_Te_readLeaf 5 = .ok (.istore_n 3, 1) := by decide +kernel
theorem d_Te_readLeaf_6 : decode c_Te_readLeaf 6 = .ok (.iload_n 3, 1) := by decide +kernel
theorem d_Te_readLeaf_7 : decode c_Te_readLeaf 7 = .ok (.invokestatic 49, 3) := by decide +kernel
theorem d_Te_readLeaf_10 : decode c_Te_readLeaf 10 = .ok (.ifCond .eq 22, 3) := by decide +kernel
theorem d_Te_readLeaf_13 : decode c_Te_readLeaf 13 = .ok (.iload_n 2, 1) := by decide +kernel
theorem d_Te_readLeaf_14 : decode c_Te_readLeaf 14 = .ok (.iload_n 3, 1) := by decide +kernel
theorem d_Te_readLeaf_15 : decode c_Te_readLeaf 15 = .ok (.bipush 107, 2) := by decide +kernel
theorem d_Te_readLeaf_17 : decode c_Te_readLeaf 17 = .ok (.isub, 1) := by decide +kernel
theorem d_Te_readLeaf_18 : decode c_Te_readLeaf 18 = .ok (.invokestatic 83, 3) := by decide +kernel
theorem d_Te_readLeaf_21 : decode c_Te_readLeaf 21 = .ok (.ifCond .eq 9, 3) := by decide +kernel
theorem d_Te_readLeaf_24 : decode c_Te_readLeaf 24 = .ok (.iload_n 1, 1) := by decide +kernel
theorem d_Te_readLeaf_25 : decode c_Te_readLeaf 25 = .ok (.iconst 1, 1) := by decide +kernel
theorem d_Te_readLeaf_26 : decode c_Te_readLeaf 26 = .ok (.iadd, 1) := by decide +kernel
theorem d_Te_readLeaf_27 : decode c_Te_readLeaf 27 = .ok (.goto 4, 3) := by decide +kernel
theorem d_Te_readLeaf_30 : decode c_Te_readLeaf 30 = .ok (.iconst (-1), 1) := by decide +kernel
theorem d_Te_readLeaf_31 : decode c_Te_readLeaf 31 = .ok (.ireturn, 1) := by decide +kernel
theorem d_Te_readLeaf_32 : decode c_Te_readLeaf 32 = .ok (.iload_n 3, 1) := by decide +kernel
theorem d_Te_readLeaf_33 : decode c_Te_readLeaf 33 = .ok (.invokestatic 80, 3) := by decide +kernel
theorem d_Te_readLeaf_36 : decode c_Te_readLeaf 36 = .ok (.ifCond .eq 9, 3) := by decide +kernel
theorem d_Te_readLeaf_39 : decode c_Te_readLeaf 39 = .ok (.iload_n 1, 1) := by decide +kernel
theorem d_Te_readLeaf_40 : decode c_Te_readLeaf 40 = .ok (.iconst 1, 1) := by decide +kernel
theorem d_Te_readLeaf_41 : decode c_Te_readLeaf 41 = .ok (.iadd, 1) := by decide +kernel
theorem d_Te_readLeaf_42 : decode c_Te_readLeaf 42 = .ok (.goto 8, 3) := by decide +kernel
theorem d_Te_readLeaf_45 : decode c_Te_readLeaf 45 = .ok (.aload_n 0, 1) := by decide +kernel
theorem d_Te_readLeaf_46 : decode c_Te_readLeaf 46 = .ok (.iload_n 1, 1) := by decide +kernel
theorem d_Te_readLeaf_47 : decode c_Te_readLeaf 47 = .ok (.invokevirtual 71, 3) := by decide +kernel
theorem d_Te_readLeaf_50 : decode c_Te_readLeaf 50 = .ok (.ireturn, 1) := by decide +kernel
theorem d_B_hasBit_0 : decode c_B_hasBit 0 = .ok (.iload_n 0, 1) := by decide +kernel
theorem d_B_hasBit_1 : decode c_B_hasBit 1 = .ok (.iload_n 1, 1) := by decide +kernel
theorem d_B_hasBit_2 : decode c_B_hasBit 2 = .ok (.ishr, 1) := by decide +kernel
theorem d_B_hasBit_3 : decode c_B_hasBit 3 = .ok (.iconst 1, 1) := by decide +kernel
theorem d_B_hasBit_4 : decode c_B_hasBit 4 = .ok (.iand, 1) := by decide +kernel
theorem d_B_hasBit_5 : decode c_B_hasBit 5 = .ok (.iconst 1, 1) := by decide +kernel
theorem d_B_hasBit_6 : decode c_B_hasBit 6 = .ok (.if_icmp .ne 7, 3) := by decide +kernel
theorem d_B_hasBit_9 : decode c_B_hasBit 9 = .ok (.iconst 1, 1) := by decide +kernel
theorem d_B_hasBit_10 : decode c_B_hasBit 10 = .ok (.goto 4, 3) := by decide +kernel
theorem d_B_hasBit_13 : decode c_B_hasBit 13 = .ok (.iconst 0, 1) := by decide +kernel
theorem d_B_hasBit_14 : decode c_B_hasBit 14 = .ok (.ireturn, 1) := by decide +kernel
theorem d_B_follow_0 : decode c_B_follow 0 = .ok (.aload_n 0, 1) := by decide +kernel
theorem d_B_follow_1 : decode c_B_follow 1 = .ok (.invokevirtual 115, 3) := by decide +kernel
theorem d_B_follow_4 : decode c_B_follow 4 = .ok (.aload_n 0, 1) := by decide +kernel
theorem d_B_follow_5 : decode c_B_follow 5 = .ok (.invokevirtual 118, 3) := by decide +kernel
theorem d_B_follow_8 : decode c_B_follow 8 = .ok (.iconst 0, 1) := by decide +kernel
theorem d_B_follow_9 : decode c_B_follow 9 = .ok (.istore_n 2, 1) := by decide +kernel
theorem d_B_follow_10 : decode c_B_follow 10 = .ok (.iload_n 2, 1) := by decide +kernel
theorem d_B_follow_11 : decode c_B_follow 11 = .ok (.bipush 10, 2) := by decide +kernel
theorem d_B_follow_13 : decode c_B_follow 13 = .ok (.if_icmp .ge 23, 3) := by decide +kernel
theorem d_B_follow_16 : decode c_B_follow 16 = .ok (.aload_n 0, 1) := by decide +kernel
theorem d_B_follow_17 : decode c_B_follow 17 = .ok (.getfield 11, 3) := by decide +kernel
theorem d_B_follow_20 : decode c_B_follow 20 = .ok (.iload_n 2, 1) := by decide +kernel
theorem d_B_follow_21 : decode c_B_follow 21 = .ok (.aaload, 1) := by decide +kernel
theorem d_B_follow_22 : decode c_B_follow 22 = .ok (.aload_n 0, 1) := by decide +kernel
theorem d_B_follow_23 : decode c_B_follow 23 = .ok (.iload_n 2, 1) := by decide +kernel
theorem d_B_follow_24 : decode c_B_follow 24 = .ok (.invokevirtual 121, 3) := by decide +kernel
theorem d_B_follow_27 : decode c_B_follow 27 = .ok (.putfield 125, 3) := by decide +kernel
theorem d_B_follow_30 : decode c_B_follow 30 = .ok (.iinc 2 1, 3) := by decide +kernel
theorem d_B_follow_33 : decode c_B_follow 33 = .ok (.goto (-23), 3) := by decide +kernel
theorem d_B_follow_36 : decode c_B_follow 36 = .ok (.aload_n 0, 1) := by decide +kernel
theorem d_B_follow_37 : decode c_B_follow 37 = .ok (.iload_n 1, 1) := by decide +kernel
theorem d_B_follow_38 : decode c_B_follow 38 = .ok (.invokevirtual 128, 3) := by decide +kernel
theorem d_B_follow_41 : decode c_B_follow 41 = .ok (.return_, 1) := by decide +kernel
theorem d_B_findDefiners_0 : decode c_B_findDefiners 0 = .ok (.iconst 0, 1) := by decide +kernel
theorem d_B_findDefiners_1 : decode c_B_findDefiners 1 = .ok (.istore_n 1, 1) := by decide +kernel
theorem d_B_findDefiners_2 : decode c_B_findDefiners 2 = .ok (.iload_n 1, 1) := by decide +kernel
theorem d_B_findDefiners_3 : decode c_B_findDefiners 3 = .ok (.bipush 10, 2) := by decide +kernel
theorem d_B_findDefiners_5 : decode c_B_findDefiners 5 = .ok (.if_icmp .ge 16, 3) := by decide +kernel
theorem d_B_findDefiners_8 : decode c_B_findDefiners 8 = .ok (.aload_n 0, 1) := by decide +kernel
theorem d_B_findDefiners_9 : decode c_B_findDefiners 9 = .ok (.getfield 16, 3) := by decide +kernel
theorem d_B_findDefiners_12 : decode c_B_findDefiners 12 = .ok (.iload_n 1, 1) := by decide +kernel
theorem d_B_findDefiners_13 : decode c_B_findDefiners 13 = .ok (.aconst_null, 1) := by decide +kernel
theorem d_B_findDefiners_14 : decode c_B_findDefiners 14 = .ok (.aastore, 1) := by decide +kernel
theorem d_B_findDefiners_15 : decode c_B_findDefiners 15 = .ok (.iinc 1 1, 3) := by decide +kernel
theorem d_B_findDefiners_18 : decode c_B_findDefiners 18 = .ok (.goto (-16), 3) := by decide +kernel
theorem d_B_findDefiners_21 : decode c_B_findDefiners 21 = .ok (.iconst 0, 1) := by decide +kernel
theorem d_B_findDefiners_22 : decode c_B_findDefiners 22 = .ok (.istore_n 1, 1) := by decide +kernel
theorem d_B_findDefiners_23 : decode c_B_findDefiners 23 = .ok (.iload_n 1, 1) := by decide +kernel
theorem d_B_findDefiners_24 : decode c_B_findDefiners 24 = .ok (.bipush 10, 2) := by decide +kernel
theorem d_B_findDefiners_26 : decode c_B_findDefiners 26 = .ok (.if_icmp .ge 41, 3) := by decide +kernel
theorem d_B_findDefiners_29 : decode c_B_findDefiners 29 = .ok (.aload_n 0, 1) := by decide +kernel
theorem d_B_findDefiners_30 : decode c_B_findDefiners 30 = .ok (.getfield 11, 3) := by decide +kernel
theorem d_B_findDefiners_33 : decode c_B_findDefiners 33 = .ok (.iload_n 1, 1) := by decide +kernel
theorem d_B_findDefiners_34 : decode c_B_findDefiners 34 = .ok (.aaload, 1) := by decide +kernel
theorem d_B_findDefiners_35 : decode c_B_findDefiners 35 = .ok (.invokevirtual 71, 3) := by decide +kernel
theorem d_B_findDefiners_38 : decode c_B_findDefiners 38 = .ok (.ifCond .ne 23, 3) := by decide +kernel
theorem d_B_findDefiners_41 : decode c_B_findDefiners 41 = .ok (.aload_n 0, 1) := by decide +kernel
theorem d_B_findDefiners_42 : decode c_B_findDefiners 42 = .ok (.getfield 16, 3) := by decide +kernel
theorem d_B_findDefiners_45 : decode c_B_findDefiners 45 = .ok (.aload_n 0, 1) := by decide +kernel
theorem d_B_findDefiners_46 : decode c_B_findDefiners 46 = .ok (.getfield 11, 3) := by decide +kernel
theorem d_B_findDefiners_49 : decode c_B_findDefiners 49 = .ok (.iload_n 1, 1) := by decide +kernel
theorem d_B_findDefiners_50 : decode c_B_findDefiners 50 = .ok (.aaload, 1) := by decide +kernel
theorem d_B_findDefiners_51 : decode c_B_findDefiners 51 = .ok (.getfield 54, 3) := by decide +kernel
theorem d_B_findDefiners_54 : decode c_B_findDefiners 54 = .ok (.aload_n 0, 1) := by decide +kernel
theorem d_B_findDefiners_55 : decode c_B_findDefiners 55 = .ok (.getfield 11, 3) := by decide +kernel
theorem d_B_findDefiners_58 : decode c_B_findDefiners 58 = .ok (.iload_n 1, 1) := by decide +kernel
theorem d_B_findDefiners_59 : decode c_B_findDefiners 59 = .ok (.aaload, 1) := by decide +kernel
theorem d_B_findDefiners_60 : decode c_B_findDefiners 60 = .ok (.aastore, 1) := by decide +kernel
theorem d_B_findDefiners_61 : decode c_B_findDefiners 61 = .ok (.iinc 1 1, 3) := by decide +kernel
theorem d_B_findDefiners_64 : decode c_B_findDefiners 64 = .ok (.goto (-41), 3) := by decide +kernel
theorem d_B_findDefiners_67 : decode c_B_findDefiners 67 = .ok (.return_, 1) := by decide +kernel
theorem d_B_findWays_0 : decode c_B_findWays 0 = .ok (.iconst 0, 1) := by decide +kernel
theorem d_B_findWays_1 : decode c_B_findWays 1 = .ok (.istore_n 1, 1) := by decide +kernel
theorem d_B_findWays_2 : decode c_B_findWays 2 = .ok (.iload_n 1, 1) := by decide +kernel
theorem d_B_findWays_3 : decode c_B_findWays 3 = .ok (.bipush 10, 2) := by decide +kernel
theorem d_B_findWays_5 : decode c_B_findWays 5 = .ok (.if_icmp .ge 56, 3) := by decide +kernel
theorem d_B_findWays_8 : decode c_B_findWays 8 = .ok (.aload_n 0, 1) := by decide +kernel
theorem d_B_findWays_9 : decode c_B_findWays 9 = .ok (.getfield 11, 3) := by decide +kernel
theorem d_B_findWays_12 : decode c_B_findWays 12 = .ok (.iload_n 1, 1) := by decide +kernel
theorem d_B_findWays_13 : decode c_B_findWays 13 = .ok (.aaload, 1) := by decide +kernel
theorem d_B_findWays_14 : decode c_B_findWays 14 = .ok (.getfield 57, 3) := by decide +kernel
theorem d_B_findWays_17 : decode c_B_findWays 17 = .ok (.invokevirtual 134, 3) := by decide +kernel
theorem d_B_findWays_20 : decode c_B_findWays 20 = .ok (.istore_n 2, 1) := by decide +kernel
theorem d_B_findWays_21 : decode c_B_findWays 21 = .ok (.aload_n 0, 1) := by decide +kernel
theorem d_B_findWays_22 : decode c_B_findWays 22 = .ok (.getfield 19, 3) := by decide +kernel
theorem d_B_findWays_25 : decode c_B_findWays 25 = .ok (.iload_n 1, 1) := by decide +kernel
theorem d_B_findWays_26 : decode c_B_findWays 26 = .ok (.iload_n 2, 1) := by decide +kernel
theorem d_B_findWays_27 : decode c_B_findWays 27 = .ok (.ifCond .eq 11, 3) := by decide +kernel
theorem d_B_findWays_30 : decode c_B_findWays 30 = .ok (.aload_n 0, 1) := by decide +kernel
theorem d_B_findWays_31 : decode c_B_findWays 31 = .ok (.iload_n 1, 1) := by decide +kernel
theorem d_B_findWays_32 : decode c_B_findWays 32 = .ok (.invokevirtual 137, 3) := by decide +kernel
theorem d_B_findWays_35 : decode c_B_findWays 35 = .ok (.goto 19, 3) := by decide +kernel
theorem d_B_findWays_38 : decode c_B_findWays 38 = .ok (.aload_n 0, 1) := by decide +kernel
theorem d_B_findWays_39 : decode c_B_findWays 39 = .ok (.aload_n 0, 1) := by decide +kernel
theorem d_B_findWays_40 : decode c_B_findWays 40 = .ok (.getfield 11, 3) := by decide +kernel
theorem d_B_findWays_43 : decode c_B_findWays 43 = .ok (.iload_n 1, 1) := by decide +kernel
theorem d_B_findWays_44 : decode c_B_findWays 44 = .ok (.aaload, 1) := by decide +kernel
theorem d_B_findWays_45 : decode c_B_findWays 45 = .ok (.getfield 57, 3) := by decide +kernel
theorem d_B_findWays_48 : decode c_B_findWays 48 = .ok (.getfield 100, 3) := by decide +kernel
theorem d_B_findWays_51 : decode c_B_findWays 51 = .ok (.invokevirtual 131, 3) := by decide +kernel
theorem d_B_findWays_54 : decode c_B_findWays 54 = .ok (.iastore, 1) := by decide +kernel
theorem d_B_findWays_55 : decode c_B_findWays 55 = .ok (.iinc 1 1, 3) := by decide +kernel
theorem d_B_findWays_58 : decode c_B_findWays 58 = .ok (.goto (-56), 3) := by decide +kernel
theorem d_B_findWays_61 : decode c_B_findWays 61 = .ok (.iconst 0, 1) := by decide +kernel
theorem d_B_findWays_62 : decode c_B_findWays 62 = .ok (.istore_n 1, 1) := by decide +kernel
theorem d_B_findWays_63 : decode c_B_findWays 63 = .ok (.iload_n 1, 1) := by decide +kernel
theorem d_B_findWays_64 : decode c_B_findWays 64 = .ok (.bipush 10, 2) := by decide +kernel
theorem d_B_findWays_66 : decode c_B_findWays 66 = .ok (.if_icmp .ge 51, 3) := by decide +kernel
theorem d_B_findWays_69 : decode c_B_findWays 69 = .ok (.iconst 0, 1) := by decide +kernel
theorem d_B_findWays_70 : decode c_B_findWays 70 = .ok (.istore_n 2, 1) := by decide +kernel
theorem d_B_findWays_71 : decode c_B_findWays 71 = .ok (.iload_n 2, 1) := by decide +kernel
theorem d_B_findWays_72 : decode c_B_findWays 72 = .ok (.bipush 10, 2) := by decide +kernel
theorem d_B_findWays_74 : decode c_B_findWays 74 = .ok (.if_icmp .ge 37, 3) := by decide +kernel
theorem d_B_findWays_77 : decode c_B_findWays 77 = .ok (.aload_n 0, 1) := by decide +kernel
theorem d_B_findWays_78 : decode c_B_findWays 78 = .ok (.getfield 19, 3) := by decide +kernel
theorem d_B_findWays_81 : decode c_B_findWays 81 = .ok (.iload_n 2, 1) := by decide +kernel
theorem d_B_findWays_82 : decode c_B_findWays 82 = .ok (.iaload, 1) := by decide +kernel
theorem d_B_findWays_83 : decode c_B_findWays 83 = .ok (.iload_n 1, 1) := by decide +kernel
theorem d_B_findWays_84 : decode c_B_findWays 84 = .ok (.invokestatic 140, 3) := by decide +kernel
theorem d_B_findWays_87 : decode c_B_findWays 87 = .ok (.ifCond .eq 18, 3) := by decide +kernel
theorem d_B_findWays_90 : decode c_B_findWays 90 = .ok (.aload_n 0, 1) := by decide +kernel
theorem d_B_findWays_91 : decode c_B_findWays 91 = .ok (.getfield 19, 3) := by decide +kernel
theorem d_B_findWays_94 : decode c_B_findWays 94 = .ok (.iload_n 2, 1) := by decide +kernel
theorem d_B_findWays_95 : decode c_B_findWays 95 = .ok (.dup2, 1) := by decide +kernel
theorem d_B_findWays_96 : decode c_B_findWays 96 = .ok (.iaload, 1) := by decide +kernel
theorem d_B_findWays_97 : decode c_B_findWays 97 = .ok (.aload_n 0, 1) := by decide +kernel
theorem d_B_findWays_98 : decode c_B_findWays 98 = .ok (.getfield 19, 3) := by decide +kernel
theorem d_B_findWays_101 : decode c_B_findWays 101 = .ok (.iload_n 1, 1) := by decide +kernel
theorem d_B_findWays_102 : decode c_B_findWays 102 = .ok (.iaload, 1) := by decide +kernel
theorem d_B_findWays_103 : decode c_B_findWays 103 = .ok (.ior, 1) := by decide +kernel
theorem d_B_findWays_104 : decode c_B_findWays 104 = .ok (.iastore, 1) := by decide +kernel
theorem d_B_findWays_105 : decode c_B_findWays 105 = .ok (.iinc 2 1, 3) := by decide +kernel
theorem d_B_findWays_108 : decode c_B_findWays 108 = .ok (.goto (-37), 3) := by decide +kernel
theorem d_B_findWays_111 : decode c_B_findWays 111 = .ok (.iinc 1 1, 3) := by decide +kernel
theorem d_B_findWays_114 : decode c_B_findWays 114 = .ok (.goto (-51), 3) := by decide +kernel
theorem d_B_findWays_117 : decode c_B_findWays 117 = .ok (.return_, 1) := by decide +kernel
theorem d_Te_isFunction_0 : decode c_Te_isFunction 0 = .ok (.aload_n 0, 1) := by decide +kernel
theorem d_Te_isFunction_1 : decode c_Te_isFunction 1 = .ok (.getfield 26, 3) := by decide +kernel
theorem d_Te_isFunction_4 : decode c_Te_isFunction 4 = .ok (.ifCond .eq 15, 3) := by decide +kernel
theorem d_Te_isFunction_7 : decode c_Te_isFunction 7 = .ok (.aload_n 0, 1) := by decide +kernel
theorem d_Te_isFunction_8 : decode c_Te_isFunction 8 = .ok (.getfield 23, 3) := by decide +kernel
theorem d_Te_isFunction_11 : decode c_Te_isFunction 11 = .ok (.iconst 2, 1) := by decide +kernel
theorem d_Te_isFunction_12 : decode c_Te_isFunction 12 = .ok (.if_icmp .ne 7, 3) := by decide +kernel
theorem d_Te_isFunction_15 : decode c_Te_isFunction 15 = .ok (.iconst 1, 1) := by decide +kernel
theorem d_Te_isFunction_16 : decode c_Te_isFunction 16 = .ok (.goto 4, 3) := by decide +kernel
theorem d_Te_isFunction_19 : decode c_Te_isFunction 19 = .ok (.iconst 0, 1) := by decide +kernel
theorem d_Te_isFunction_20 : decode c_Te_isFunction 20 = .ok (.ireturn, 1) := by decide +kernel
theorem d_B_othersUsedBy_0 : decode c_B_othersUsedBy 0 = .ok (.aload_n 0, 1) := by decide +kernel
theorem d_B_othersUsedBy_1 : decode c_B_othersUsedBy 1 = .ok (.aload_n 0, 1) := by decide +kernel
theorem d_B_othersUsedBy_2 : decode c_B_othersUsedBy 2 = .ok (.getfield 11, 3) := by decide +kernel
theorem d_B_othersUsedBy_5 : decode c_B_othersUsedBy 5 = .ok (.iload_n 1, 1) := by decide +kernel
theorem d_B_othersUsedBy_6 : decode c_B_othersUsedBy 6 = .ok (.aaload, 1) := by decide +kernel
theorem d_B_othersUsedBy_7 : decode c_B_othersUsedBy 7 = .ok (.getfield 57, 3) := by decide +kernel
theorem d_B_othersUsedBy_10 : decode c_B_othersUsedBy 10 = .ok (.getfield 100, 3) := by decide +kernel
theorem d_B_othersUsedBy_13 : decode c_B_othersUsedBy 13 = .ok (.invokevirtual 131, 3) := by decide +kernel
theorem d_B_othersUsedBy_16 : decode c_B_othersUsedBy 16 = .ok (.iconst 1, 1) := by decide +kernel
theorem d_B_othersUsedBy_17 : decode c_B_othersUsedBy 17 = .ok (.iload_n 1, 1) := by decide +kernel
theorem d_B_othersUsedBy_18 : decode c_B_othersUsedBy 18 = .ok (.ishl, 1) := by decide +kernel
theorem d_B_othersUsedBy_19 : decode c_B_othersUsedBy 19 = .ok (.iconst (-1), 1) := by decide +kernel
theorem d_B_othersUsedBy_20 : decode c_B_othersUsedBy 20 = .ok (.ixor, 1) := by decide +kernel
theorem d_B_othersUsedBy_21 : decode c_B_othersUsedBy 21 = .ok (.iand, 1) := by decide +kernel
theorem d_B_othersUsedBy_22 : decode c_B_othersUsedBy 22 = .ok (.ireturn, 1) := by decide +kernel
theorem d_B_cellsDefining_0 : decode c_B_cellsDefining 0 = .ok (.iconst 0, 1) := by decide +kernel
theorem d_B_cellsDefining_1 : decode c_B_cellsDefining 1 = .ok (.istore_n 2, 1) := by decide +kernel
theorem d_B_cellsDefining_2 : decode c_B_cellsDefining 2 = .ok (.iconst 0, 1) := by decide +kernel
theorem d_B_cellsDefining_3 : decode c_B_cellsDefining 3 = .ok (.istore_n 3, 1) := by decide +kernel
theorem d_B_cellsDefining_4 : decode c_B_cellsDefining 4 = .ok (.iload_n 3, 1) := by decide +kernel
theorem d_B_cellsDefining_5 : decode c_B_cellsDefining 5 = .ok (.bipush 10, 2) := by decide +kernel
theorem d_B_cellsDefining_7 : decode c_B_cellsDefining 7 = .ok (.if_icmp .ge 29, 3) := by decide +kernel
theorem d_B_cellsDefining_10 : decode c_B_cellsDefining 10 = .ok (.aload_n 0, 1) := by decide +kernel
theorem d_B_cellsDefining_11 : decode c_B_cellsDefining 11 = .ok (.getfield 11, 3) := by decide +kernel
theorem d_B_cellsDefining_14 : decode c_B_cellsDefining 14 = .ok (.iload_n 3, 1) := by decide +kernel
theorem d_B_cellsDefining_15 : decode c_B_cellsDefining 15 = .ok (.aaload, 1) := by decide +kernel
theorem d_B_cellsDefining_16 : decode c_B_cellsDefining 16 = .ok (.invokevirtual 50, 3) := by decide +kernel
theorem d_B_cellsDefining_19 : decode c_B_cellsDefining 19 = .ok (.iload_n 1, 1) := by decide +kernel
theorem d_B_cellsDefining_20 : decode c_B_cellsDefining 20 = .ok (.iand, 1) := by decide +kernel
theorem d_B_cellsDefining_21 : decode c_B_cellsDefining 21 = .ok (.ifCond .eq 9, 3) := by decide +kernel
theorem d_B_cellsDefining_24 : decode c_B_cellsDefining 24 = .ok (.iload_n 2, 1) := by decide +kernel
theorem d_B_cellsDefining_25 : decode c_B_cellsDefining 25 = .ok (.iconst 1, 1) := by decide +kernel
theorem d_B_cellsDefining_26 : decode c_B_cellsDefining 26 = .ok (.iload_n 3, 1) := by decide +kernel
theorem d_B_cellsDefining_27 : decode c_B_cellsDefining 27 = .ok (.ishl, 1) := by decide +kernel
theorem d_B_cellsDefining_28 : decode c_B_cellsDefining 28 = .ok (.ior, 1) := by decide +kernel
theorem d_B_cellsDefining_29 : decode c_B_cellsDefining 29 = .ok (.istore_n 2, 1) := by decide +kernel
theorem d_B_cellsDefining_30 : decode c_B_cellsDefining 30 = .ok (.iinc 3 1, 3) := by decide +kernel
theorem d_B_cellsDefining_33 : decode c_B_cellsDefining 33 = .ok (.goto (-29), 3) := by decide +kernel
theorem d_B_cellsDefining_36 : decode c_B_cellsDefining 36 = .ok (.iload_n 2, 1) := by decide +kernel
theorem d_B_cellsDefining_37 : decode c_B_cellsDefining 37 = .ok (.ireturn, 1) := by decide +kernel
theorem d_B_faultOf_0 : decode c_B_faultOf 0 = .ok (.aload_n 0, 1) := by decide +kernel
theorem d_B_faultOf_1 : decode c_B_faultOf 1 = .ok (.getfield 11, 3) := by decide +kernel
theorem d_B_faultOf_4 : decode c_B_faultOf 4 = .ok (.iload_n 1, 1) := by decide +kernel
theorem d_B_faultOf_5 : decode c_B_faultOf 5 = .ok (.aaload, 1) := by decide +kernel
theorem d_B_faultOf_6 : decode c_B_faultOf 6 = .ok (.astore_n 2, 1) := by decide +kernel
theorem d_B_faultOf_7 : decode c_B_faultOf 7 = .ok (.aload_n 2, 1) := by decide +kernel
theorem d_B_faultOf_8 : decode c_B_faultOf 8 = .ok (.invokevirtual 71, 3) := by decide +kernel
theorem d_B_faultOf_11 : decode c_B_faultOf 11 = .ok (.ifCond .eq 5, 3) := by decide +kernel
theorem d_B_faultOf_14 : decode c_B_faultOf 14 = .ok (.iconst 0, 1) := by decide +kernel
theorem d_B_faultOf_15 : decode c_B_faultOf 15 = .ok (.ireturn, 1) := by decide +kernel
theorem d_B_faultOf_16 : decode c_B_faultOf 16 = .ok (.aload_n 2, 1) := by decide +kernel
theorem d_B_faultOf_17 : decode c_B_faultOf 17 = .ok (.getfield 57, 3) := by decide +kernel
theorem d_B_faultOf_20 : decode c_B_faultOf 20 = .ok (.getfield 144, 3) := by decide +kernel
theorem d_B_faultOf_23 : decode c_B_faultOf 23 = .ok (.ifCond .ne 5, 3) := by decide +kernel
theorem d_B_faultOf_26 : decode c_B_faultOf 26 = .ok (.iconst 1, 1) := by decide +kernel
theorem d_B_faultOf_27 : decode c_B_faultOf 27 = .ok (.ireturn, 1) := by decide +kernel
theorem d_B_faultOf_28 : decode c_B_faultOf 28 = .ok (.aload_n 0, 1) := by decide +kernel
theorem d_B_faultOf_29 : decode c_B_faultOf 29 = .ok (.aload_n 2, 1) := by decide +kernel
theorem d_B_faultOf_30 : decode c_B_faultOf 30 = .ok (.invokevirtual 50, 3) := by decide +kernel
theorem d_B_faultOf_33 : decode c_B_faultOf 33 = .ok (.invokevirtual 131, 3) := by decide +kernel
theorem d_B_faultOf_36 : decode c_B_faultOf 36 = .ok (.iconst 1, 1) := by decide +kernel
theorem d_B_faultOf_37 : decode c_B_faultOf 37 = .ok (.iload_n 1, 1) := by decide +kernel
theorem d_B_faultOf_38 : decode c_B_faultOf 38 = .ok (.ishl, 1) := by decide +kernel
theorem d_B_faultOf_39 : decode c_B_faultOf 39 = .ok (.if_icmp .eq 5, 3) := by decide +kernel
theorem d_B_faultOf_42 : decode c_B_faultOf 42 = .ok (.iconst 2, 1) := by decide +kernel
theorem d_B_faultOf_43 : decode c_B_faultOf 43 = .ok (.ireturn, 1) := by decide +kernel
theorem d_B_faultOf_44 : decode c_B_faultOf 44 = .ok (.aload_n 0, 1) := by decide +kernel
theorem d_B_faultOf_45 : decode c_B_faultOf 45 = .ok (.aload_n 2, 1) := by decide +kernel
theorem d_B_faultOf_46 : decode c_B_faultOf 46 = .ok (.invokevirtual 147, 3) := by decide +kernel
theorem d_B_faultOf_49 : decode c_B_faultOf 49 = .ok (.ifCond .eq 5, 3) := by decide +kernel
theorem d_B_faultOf_52 : decode c_B_faultOf 52 = .ok (.iconst 3, 1) := by decide +kernel
theorem d_B_faultOf_53 : decode c_B_faultOf 53 = .ok (.ireturn, 1) := by decide +kernel
theorem d_B_faultOf_54 : decode c_B_faultOf 54 = .ok (.aload_n 0, 1) := by decide +kernel
theorem d_B_faultOf_55 : decode c_B_faultOf 55 = .ok (.getfield 19, 3) := by decide +kernel
theorem d_B_faultOf_58 : decode c_B_faultOf 58 = .ok (.iload_n 1, 1) := by decide +kernel
theorem d_B_faultOf_59 : decode c_B_faultOf 59 = .ok (.iaload, 1) := by decide +kernel
theorem d_B_faultOf_60 : decode c_B_faultOf 60 = .ok (.iload_n 1, 1) := by decide +kernel
theorem d_B_faultOf_61 : decode c_B_faultOf 61 = .ok (.invokestatic 140, 3) := by decide +kernel
theorem d_B_faultOf_64 : decode c_B_faultOf 64 = .ok (.ifCond .eq 7, 3) := by decide +kernel
theorem d_B_faultOf_67 : decode c_B_faultOf 67 = .ok (.iconst 4, 1) := by decide +kernel
theorem d_B_faultOf_68 : decode c_B_faultOf 68 = .ok (.goto 4, 3) := by decide +kernel
theorem d_B_faultOf_71 : decode c_B_faultOf 71 = .ok (.iconst 0, 1) := by decide +kernel
theorem d_B_faultOf_72 : decode c_B_faultOf 72 = .ok (.ireturn, 1) := by decide +kernel
theorem d_B_usesMissingName_0 : decode c_B_usesMissingName 0 = .ok (.iconst 0, 1) := by decide +kernel
theorem d_B_usesMissingName_1 : decode c_B_usesMissingName 1 = .ok (.istore_n 2, 1) := by decide +kernel
theorem d_B_usesMissingName_2 : decode c_B_usesMissingName 2 = .ok (.iload_n 2, 1) := by decide +kernel
theorem d_B_usesMissingName_3 : decode c_B_usesMissingName 3 = .ok (.bipush 10, 2) := by decide +kernel
theorem d_B_usesMissingName_5 : decode c_B_usesMissingName 5 = .ok (.if_icmp .ge 34, 3) := by decide +kernel
theorem d_B_usesMissingName_8 : decode c_B_usesMissingName 8 = .ok (.aload_n 1, 1) := by decide +kernel
theorem d_B_usesMissingName_9 : decode c_B_usesMissingName 9 = .ok (.getfield 57, 3) := by decide +kernel
theorem d_B_usesMissingName_12 : decode c_B_usesMissingName 12 = .ok (.getfield 100, 3) := by decide +kernel
theorem d_B_usesMissingName_15 : decode c_B_usesMissingName 15 = .ok (.iload_n 2, 1) := by decide +kernel
theorem d_B_usesMissingName_16 : decode c_B_usesMissingName 16 = .ok (.invokestatic 140, 3) := by decide +kernel
theorem d_B_usesMissingName_19 : decode c_B_usesMissingName 19 = .ok (.ifCond .eq 14, 3) := by decide +kernel
theorem d_B_usesMissingName_22 : decode c_B_usesMissingName 22 = .ok (.aload_n 0, 1) := by decide +kernel
theorem d_B_usesMissingName_23 : decode c_B_usesMissingName 23 = .ok (.getfield 16, 3) := by decide +kernel
theorem d_B_usesMissingName_26 : decode c_B_usesMissingName 26 = .ok (.iload_n 2, 1) := by decide +kernel
theorem d_B_usesMissingName_27 : decode c_B_usesMissingName 27 = .ok (.aaload, 1) := by decide +kernel
theorem d_B_usesMissingName_28 : decode c_B_usesMissingName 28 = .ok (.ifnonnull 5, 3) := by decide +kernel
theorem d_B_usesMissingName_31 : decode c_B_usesMissingName 31 = .ok (.iconst 1, 1) := by decide +kernel
theorem d_B_usesMissingName_32 : decode c_B_usesMissingName 32 = .ok (.ireturn, 1) := by decide +kernel
theorem d_B_usesMissingName_33 : decode c_B_usesMissingName 33 = .ok (.iinc 2 1, 3) := by decide +kernel
theorem d_B_usesMissingName_36 : decode c_B_usesMissingName 36 = .ok (.goto (-34), 3) := by decide +kernel
theorem d_B_usesMissingName_39 : decode c_B_usesMissingName 39 = .ok (.iconst 0, 1) := by decide +kernel
theorem d_B_usesMissingName_40 : decode c_B_usesMissingName 40 = .ok (.ireturn, 1) := by decide +kernel
theorem d_B_spreadStale_0 : decode c_B_spreadStale 0 = .ok (.iconst 0, 1) := by decide +kernel
theorem d_B_spreadStale_1 : decode c_B_spreadStale 1 = .ok (.istore_n 2, 1) := by decide +kernel
theorem d_B_spreadStale_2 : decode c_B_spreadStale 2 = .ok (.iload_n 2, 1) := by decide +kernel
theorem d_B_spreadStale_3 : decode c_B_spreadStale 3 = .ok (.bipush 10, 2) := by decide +kernel
theorem d_B_spreadStale_5 : decode c_B_spreadStale 5 = .ok (.if_icmp .ge 33, 3) := by decide +kernel
theorem d_B_spreadStale_8 : decode c_B_spreadStale 8 = .ok (.aload_n 0, 1) := by decide +kernel
theorem d_B_spreadStale_9 : decode c_B_spreadStale 9 = .ok (.getfield 11, 3) := by decide +kernel
theorem d_B_spreadStale_12 : decode c_B_spreadStale 12 = .ok (.iload_n 2, 1) := by decide +kernel
theorem d_B_spreadStale_13 : decode c_B_spreadStale 13 = .ok (.aaload, 1) := by decide +kernel
theorem d_B_spreadStale_14 : decode c_B_spreadStale 14 = .ok (.invokevirtual 50, 3) := by decide +kernel
theorem d_B_spreadStale_17 : decode c_B_spreadStale 17 = .ok (.iload_n 1, 1) := by decide +kernel
theorem d_B_spreadStale_18 : decode c_B_spreadStale 18 = .ok (.iand, 1) := by decide +kernel
theorem d_B_spreadStale_19 : decode c_B_spreadStale 19 = .ok (.ifCond .eq 13, 3) := by decide +kernel
theorem d_B_spreadStale_22 : decode c_B_spreadStale 22 = .ok (.aload_n 0, 1) := by decide +kernel
theorem d_B_spreadStale_23 : decode c_B_spreadStale 23 = .ok (.getfield 11, 3) := by decide +kernel
theorem d_B_spreadStale_26 : decode c_B_spreadStale 26 = .ok (.iload_n 2, 1) := by decide +kernel
theorem d_B_spreadStale_27 : decode c_B_spreadStale 27 = .ok (.aaload, 1) := by decide +kernel
theorem d_B_spreadStale_28 : decode c_B_spreadStale 28 = .ok (.iconst 1, 1) := by decide +kernel
theorem d_B_spreadStale_29 : decode c_B_spreadStale 29 = .ok (.putfield 87, 3) := by decide +kernel
theorem d_B_spreadStale_32 : decode c_B_spreadStale 32 = .ok (.iinc 2 1, 3) := by decide +kernel
theorem d_B_spreadStale_35 : decode c_B_spreadStale 35 = .ok (.goto (-33), 3) := by decide +kernel
theorem d_B_spreadStale_38 : decode c_B_spreadStale 38 = .ok (.iload_n 1, 1) := by decide +kernel
theorem d_B_spreadStale_39 : decode c_B_spreadStale 39 = .ok (.istore_n 2, 1) := by decide +kernel
theorem d_B_spreadStale_40 : decode c_B_spreadStale 40 = .ok (.iconst 0, 1) := by decide +kernel
theorem d_B_spreadStale_41 : decode c_B_spreadStale 41 = .ok (.istore_n 3, 1) := by decide +kernel
theorem d_B_spreadStale_42 : decode c_B_spreadStale 42 = .ok (.iload_n 3, 1) := by decide +kernel
theorem d_B_spreadStale_43 : decode c_B_spreadStale 43 = .ok (.bipush 10, 2) := by decide +kernel
theorem d_B_spreadStale_45 : decode c_B_spreadStale 45 = .ok (.if_icmp .gt 27, 3) := by decide +kernel
theorem d_B_spreadStale_48 : decode c_B_spreadStale 48 = .ok (.iload_n 2, 1) := by decide +kernel
theorem d_B_spreadStale_49 : decode c_B_spreadStale 49 = .ok (.istore 4, 2) := by decide +kernel
theorem d_B_spreadStale_51 : decode c_B_spreadStale 51 = .ok (.iload_n 2, 1) := by decide +kernel
theorem d_B_spreadStale_52 : decode c_B_spreadStale 52 = .ok (.aload_n 0, 1) := by decide +kernel
theorem d_B_spreadStale_53 : decode c_B_spreadStale 53 = .ok (.iload_n 2, 1) := by decide +kernel
theorem d_B_spreadStale_54 : decode c_B_spreadStale 54 = .ok (.invokevirtual 151, 3) := by decide +kernel
theorem d_B_spreadStale_57 : decode c_B_spreadStale 57 = .ok (.ior, 1) := by decide +kernel
theorem d_B_spreadStale_58 : decode c_B_spreadStale 58 = .ok (.istore_n 2, 1) := by decide +kernel
theorem d_B_spreadStale_59 : decode c_B_spreadStale 59 = .ok (.iload_n 2, 1) := by decide +kernel
theorem d_B_spreadStale_60 : decode c_B_spreadStale 60 = .ok (.iload 4, 2) := by decide +kernel
theorem d_B_spreadStale_62 : decode c_B_spreadStale 62 = .ok (.if_icmp .ne 4, 3) := by decide +kernel
theorem d_B_spreadStale_65 : decode c_B_spreadStale 65 = .ok (.return_, 1) := by decide +kernel
theorem d_B_spreadStale_66 : decode c_B_spreadStale 66 = .ok (.iinc 3 1, 3) := by decide +kernel
theorem d_B_spreadStale_69 : decode c_B_spreadStale 69 = .ok (.goto (-27), 3) := by decide +kernel
theorem d_B_spreadStale_72 : decode c_B_spreadStale 72 = .ok (.return_, 1) := by decide +kernel
theorem d_B_makeUsersStale_0 : decode c_B_makeUsersStale 0 = .ok (.iconst 0, 1) := by decide +kernel
theorem d_B_makeUsersStale_1 : decode c_B_makeUsersStale 1 = .ok (.istore_n 2, 1) := by decide +kernel
theorem d_B_makeUsersStale_2 : decode c_B_makeUsersStale 2 = .ok (.iconst 0, 1) := by decide +kernel
theorem d_B_makeUsersStale_3 : decode c_B_makeUsersStale 3 = .ok (.istore_n 3, 1) := by decide +kernel
theorem d_B_makeUsersStale_4 : decode c_B_makeUsersStale 4 = .ok (.iload_n 3, 1) := by decide +kernel
theorem d_B_makeUsersStale_5 : decode c_B_makeUsersStale 5 = .ok (.bipush 10, 2) := by decide +kernel
theorem d_B_makeUsersStale_7 : decode c_B_makeUsersStale 7 = .ok (.if_icmp .ge 48, 3) := by decide +kernel
theorem d_B_makeUsersStale_10 : decode c_B_makeUsersStale 10 = .ok (.aload_n 0, 1) := by decide +kernel
theorem d_B_makeUsersStale_11 : decode c_B_makeUsersStale 11 = .ok (.getfield 11, 3) := by decide +kernel
theorem d_B_makeUsersStale_14 : decode c_B_makeUsersStale 14 = .ok (.iload_n 3, 1) := by decide +kernel
theorem d_B_makeUsersStale_15 : decode c_B_makeUsersStale 15 = .ok (.aaload, 1) := by decide +kernel
theorem d_B_makeUsersStale_16 : decode c_B_makeUsersStale 16 = .ok (.getfield 57, 3) := by decide +kernel
theorem d_B_makeUsersStale_19 : decode c_B_makeUsersStale 19 = .ok (.getfield 100, 3) := by decide +kernel
theorem d_B_makeUsersStale_22 : decode c_B_makeUsersStale 22 = .ok (.iload_n 1, 1) := by decide +kernel
theorem d_B_makeUsersStale_23 : decode c_B_makeUsersStale 23 = .ok (.iand, 1) := by decide +kernel
theorem d_B_makeUsersStale_24 : decode c_B_makeUsersStale 24 = .ok (.ifCond .eq 25, 3) := by decide +kernel
theorem d_B_makeUsersStale_27 : decode c_B_makeUsersStale 27 = .ok (.aload_n 0, 1) := by decide +kernel
theorem d_B_makeUsersStale_28 : decode c_B_makeUsersStale 28 = .ok (.getfield 11, 3) := by decide +kernel
theorem d_B_makeUsersStale_31 : decode c_B_makeUsersStale 31 = .ok (.iload_n 3, 1) := by decide +kernel
theorem d_B_makeUsersStale_32 : decode c_B_makeUsersStale 32 = .ok (.aaload, 1) := by decide +kernel
theorem d_B_makeUsersStale_33 : decode c_B_makeUsersStale 33 = .ok (.iconst 1, 1) := by decide +kernel
theorem d_B_makeUsersStale_34 : decode c_B_makeUsersStale 34 = .ok (.putfield 87, 3) := by decide +kernel
theorem d_B_makeUsersStale_37 : decode c_B_makeUsersStale 37 = .ok (.iload_n 2, 1) := by decide +kernel
theorem d_B_makeUsersStale_38 : decode c_B_makeUsersStale 38 = .ok (.aload_n 0, 1) := by decide +kernel
theorem d_B_makeUsersStale_39 : decode c_B_makeUsersStale 39 = .ok (.getfield 11, 3) := by decide +kernel
theorem d_B_makeUsersStale_42 : decode c_B_makeUsersStale 42 = .ok (.iload_n 3, 1) := by decide +kernel
theorem d_B_makeUsersStale_43 : decode c_B_makeUsersStale 43 = .ok (.aaload, 1) := by decide +kernel
theorem d_B_makeUsersStale_44 : decode c_B_makeUsersStale 44 = .ok (.invokevirtual 50, 3) := by decide +kernel
theorem d_B_makeUsersStale_47 : decode c_B_makeUsersStale 47 = .ok (.ior, 1) := by decide +kernel
theorem d_B_makeUsersStale_48 : decode c_B_makeUsersStale 48 = .ok (.istore_n 2, 1) := by decide +kernel
theorem d_B_makeUsersStale_49 : decode c_B_makeUsersStale 49 = .ok (.iinc 3 1, 3) := by decide +kernel
theorem d_B_makeUsersStale_52 : decode c_B_makeUsersStale 52 = .ok (.goto (-48), 3) := by decide +kernel
theorem d_B_makeUsersStale_55 : decode c_B_makeUsersStale 55 = .ok (.iload_n 2, 1) := by decide +kernel
theorem d_B_makeUsersStale_56 : decode c_B_makeUsersStale 56 = .ok (.ireturn, 1) := by decide +kernel
theorem d_B_remove_0 : decode c_B_remove 0 = .ok (.iload_n 1, 1) := by decide +kernel
theorem d_B_remove_1 : decode c_B_remove 1 = .ok (.invokestatic 46, 3) := by decide +kernel
theorem d_B_remove_4 : decode c_B_remove 4 = .ok (.ifCond .eq 15, 3) := by decide +kernel
theorem d_B_remove_7 : decode c_B_remove 7 = .ok (.aload_n 0, 1) := by decide +kernel
theorem d_B_remove_8 : decode c_B_remove 8 = .ok (.getfield 11, 3) := by decide +kernel
theorem d_B_remove_11 : decode c_B_remove 11 = .ok (.iload_n 1, 1) := by decide +kernel
theorem d_B_remove_12 : decode c_B_remove 12 = .ok (.aaload, 1) := by decide +kernel
theorem d_B_remove_13 : decode c_B_remove 13 = .ok (.invokevirtual 71, 3) := by decide +kernel
theorem d_B_remove_16 : decode c_B_remove 16 = .ok (.ifCond .eq 5, 3) := by decide +kernel
theorem d_B_remove_19 : decode c_B_remove 19 = .ok (.iconst 0, 1) := by decide +kernel
theorem d_B_remove_20 : decode c_B_remove 20 = .ok (.ireturn, 1) := by decide +kernel
theorem d_B_remove_21 : decode c_B_remove 21 = .ok (.aload_n 0, 1) := by decide +kernel
theorem d_B_remove_22 : decode c_B_remove 22 = .ok (.getfield 11, 3) := by decide +kernel
theorem d_B_remove_25 : decode c_B_remove 25 = .ok (.iload_n 1, 1) := by decide +kernel
theorem d_B_remove_26 : decode c_B_remove 26 = .ok (.aaload, 1) := by decide +kernel
theorem d_B_remove_27 : decode c_B_remove 27 = .ok (.invokevirtual 50, 3) := by decide +kernel
theorem d_B_remove_30 : decode c_B_remove 30 = .ok (.istore_n 2, 1) := by decide +kernel
theorem d_B_remove_31 : decode c_B_remove 31 = .ok (.aload_n 0, 1) := by decide +kernel
theorem d_B_remove_32 : decode c_B_remove 32 = .ok (.getfield 11, 3) := by decide +kernel
theorem d_B_remove_35 : decode c_B_remove 35 = .ok (.iload_n 1, 1) := by decide +kernel
theorem d_B_remove_36 : decode c_B_remove 36 = .ok (.aaload, 1) := by decide +kernel
theorem d_B_remove_37 : decode c_B_remove 37 = .ok (.invokevirtual 75, 3) := by decide +kernel
theorem d_B_remove_40 : decode c_B_remove 40 = .ok (.aload_n 0, 1) := by decide +kernel
theorem d_B_remove_41 : decode c_B_remove 41 = .ok (.iload_n 2, 1) := by decide +kernel
theorem d_B_remove_42 : decode c_B_remove 42 = .ok (.invokevirtual 67, 3) := by decide +kernel
theorem d_B_remove_45 : decode c_B_remove 45 = .ok (.iconst 1, 1) := by decide +kernel
theorem d_B_remove_46 : decode c_B_remove 46 = .ok (.ireturn, 1) := by decide +kernel
theorem d_Ce_clear_0 : decode c_Ce_clear 0 = .ok (.aload_n 0, 1) := by decide +kernel
theorem d_Ce_clear_1 : decode c_Ce_clear 1 = .ok (.iconst (-1), 1) := by decide +kernel
theorem d_Ce_clear_2 : decode c_Ce_clear 2 = .ok (.putfield 18, 3) := by decide +kernel
theorem d_Ce_clear_5 : decode c_Ce_clear 5 = .ok (.aload_n 0, 1) := by decide +kernel
theorem d_Ce_clear_6 : decode c_Ce_clear 6 = .ok (.iconst 0, 1) := by decide +kernel
theorem d_Ce_clear_7 : decode c_Ce_clear 7 = .ok (.putfield 25, 3) := by decide +kernel
theorem d_Ce_clear_10 : decode c_Ce_clear 10 = .ok (.aload_n 0, 1) := by decide +kernel
theorem d_Ce_clear_11 : decode c_Ce_clear 11 = .ok (.getfield 12, 3) := by decide +kernel
theorem d_Ce_clear_14 : decode c_Ce_clear 14 = .ok (.invokevirtual 41, 3) := by decide +kernel
theorem d_Ce_clear_17 : decode c_Ce_clear 17 = .ok (.return_, 1) := by decide +kernel
theorem d_Te_clear_0 : decode c_Te_clear 0 = .ok (.aload_n 0, 1) := by decide +kernel
theorem d_Te_clear_1 : decode c_Te_clear 1 = .ok (.iconst 0, 1) := by decide +kernel
theorem d_Te_clear_2 : decode c_Te_clear 2 = .ok (.putfield 19, 3) := by decide +kernel
theorem d_Te_clear_5 : decode c_Te_clear 5 = .ok (.aload_n 0, 1) := by decide +kernel
theorem d_Te_clear_6 : decode c_Te_clear 6 = .ok (.iconst 0, 1) := by decide +kernel
theorem d_Te_clear_7 : decode c_Te_clear 7 = .ok (.putfield 26, 3) := by decide +kernel
theorem d_Te_clear_10 : decode c_Te_clear 10 = .ok (.aload_n 0, 1) := by decide +kernel
theorem d_Te_clear_11 : decode c_Te_clear 11 = .ok (.iconst 0, 1) := by decide +kernel
theorem d_Te_clear_12 : decode c_Te_clear 12 = .ok (.putfield 30, 3) := by decide +kernel
theorem d_Te_clear_15 : decode c_Te_clear 15 = .ok (.return_, 1) := by decide +kernel
theorem d_B_work_0 : decode c_B_work 0 = .ok (.iload_n 1, 1) := by decide +kernel
theorem d_B_work_1 : decode c_B_work 1 = .ok (.ifCond .lt 9, 3) := by decide +kernel
theorem d_B_work_4 : decode c_B_work 4 = .ok (.iload_n 1, 1) := by decide +kernel
theorem d_B_work_5 : decode c_B_work 5 = .ok (.bipush 20, 2) := by decide +kernel
theorem d_B_work_7 : decode c_B_work 7 = .ok (.if_icmp .le 5, 3) := by decide +kernel
theorem d_B_work_10 : decode c_B_work 10 = .ok (.iconst (-1), 1) := by decide +kernel
theorem d_B_work_11 : decode c_B_work 11 = .ok (.ireturn, 1) := by decide +kernel
theorem d_B_work_12 : decode c_B_work 12 = .ok (.iconst 0, 1) := by decide +kernel
theorem d_B_work_13 : decode c_B_work 13 = .ok (.istore_n 2, 1) := by decide +kernel
theorem d_B_work_14 : decode c_B_work 14 = .ok (.iload_n 2, 1) := by decide +kernel
theorem d_B_work_15 : decode c_B_work 15 = .ok (.iload_n 1, 1) := by decide +kernel
theorem d_B_work_16 : decode c_B_work 16 = .ok (.if_icmp .ge 26, 3) := by decide +kernel
theorem d_B_work_19 : decode c_B_work 19 = .ok (.aload_n 0, 1) := by decide +kernel
theorem d_B_work_20 : decode c_B_work 20 = .ok (.invokevirtual 78, 3) := by decide +kernel
theorem d_B_work_23 : decode c_B_work 23 = .ok (.istore_n 3, 1) := by decide +kernel
theorem d_B_work_24 : decode c_B_work 24 = .ok (.iload_n 3, 1) := by decide +kernel
theorem d_B_work_25 : decode c_B_work 25 = .ok (.iconst (-1), 1) := by decide +kernel
theorem d_B_work_26 : decode c_B_work 26 = .ok (.if_icmp .ne 5, 3) := by decide +kernel
theorem d_B_work_29 : decode c_B_work 29 = .ok (.iload_n 2, 1) := by decide +kernel
theorem d_B_work_30 : decode c_B_work 30 = .ok (.ireturn, 1) := by decide +kernel
theorem d_B_work_31 : decode c_B_work 31 = .ok (.aload_n 0, 1) := by decide +kernel
theorem d_B_work_32 : decode c_B_work 32 = .ok (.iload_n 3, 1) := by decide +kernel
theorem d_B_work_33 : decode c_B_work 33 = .ok (.invokevirtual 81, 3) := by decide +kernel
theorem d_B_work_36 : decode c_B_work 36 = .ok (.iinc 2 1, 3) := by decide +kernel
theorem d_B_work_39 : decode c_B_work 39 = .ok (.goto (-25), 3) := by decide +kernel
theorem d_B_work_42 : decode c_B_work 42 = .ok (.iload_n 1, 1) := by decide +kernel
theorem d_B_work_43 : decode c_B_work 43 = .ok (.ireturn, 1) := by decide +kernel
theorem d_B_nextToWorkOn_0 : decode c_B_nextToWorkOn 0 = .ok (.aload_n 0, 1) := by decide +kernel
theorem d_B_nextToWorkOn_1 : decode c_B_nextToWorkOn 1 = .ok (.invokevirtual 154, 3) := by decide +kernel
theorem d_B_nextToWorkOn_4 : decode c_B_nextToWorkOn 4 = .ok (.istore_n 1, 1) := by decide +kernel
theorem d_B_nextToWorkOn_5 : decode c_B_nextToWorkOn 5 = .ok (.iconst 0, 1) := by decide +kernel
theorem d_B_nextToWorkOn_6 : decode c_B_nextToWorkOn 6 = .ok (.istore_n 2, 1) := by decide +kernel
theorem d_B_nextToWorkOn_7 : decode c_B_nextToWorkOn 7 = .ok (.iload_n 2, 1) := by decide +kernel
theorem d_B_nextToWorkOn_8 : decode c_B_nextToWorkOn 8 = .ok (.bipush 10, 2) := by decide +kernel
theorem d_B_nextToWorkOn_10 : decode c_B_nextToWorkOn 10 = .ok (.if_icmp .ge 51, 3) := by decide +kernel
theorem d_B_nextToWorkOn_13 : decode c_B_nextToWorkOn 13 = .ok (.aload_n 0, 1) := by decide +kernel
theorem d_B_nextToWorkOn_14 : decode c_B_nextToWorkOn 14 = .ok (.getfield 11, 3) := by decide +kernel
theorem d_B_nextToWorkOn_17 : decode c_B_nextToWorkOn 17 = .ok (.iload_n 2, 1) := by decide +kernel
theorem d_B_nextToWorkOn_18 : decode c_B_nextToWorkOn 18 = .ok (.aaload, 1) := by decide +kernel
theorem d_B_nextToWorkOn_19 : decode c_B_nextToWorkOn 19 = .ok (.getfield 125, 3) := by decide +kernel
theorem d_B_nextToWorkOn_22 : decode c_B_nextToWorkOn 22 = .ok (.ifCond .ne 13, 3) := by decide +kernel
theorem d_B_nextToWorkOn_25 : decode c_B_nextToWorkOn 25 = .ok (.aload_n 0, 1) := by decide +kernel
theorem d_B_nextToWorkOn_26 : decode c_B_nextToWorkOn 26 = .ok (.iload_n 2, 1) := by decide +kernel
theorem d_B_nextToWorkOn_27 : decode c_B_nextToWorkOn 27 = .ok (.invokevirtual 137, 3) := by decide +kernel
theorem d_B_nextToWorkOn_30 : decode c_B_nextToWorkOn 30 = .ok (.iload_n 1, 1) := by decide +kernel
theorem d_B_nextToWorkOn_31 : decode c_B_nextToWorkOn 31 = .ok (.iand, 1) := by decide +kernel
theorem d_B_nextToWorkOn_32 : decode c_B_nextToWorkOn 32 = .ok (.ifCond .ne 7, 3) := by decide +kernel
theorem d_B_nextToWorkOn_35 : decode c_B_nextToWorkOn 35 = .ok (.iconst 1, 1) := by decide +kernel
theorem d_B_nextToWorkOn_36 : decode c_B_nextToWorkOn 36 = .ok (.goto 4, 3) := by decide +kernel
theorem d_B_nextToWorkOn_39 : decode c_B_nextToWorkOn 39 = .ok (.iconst 0, 1) := by decide +kernel
theorem d_B_nextToWorkOn_40 : decode c_B_nextToWorkOn 40 = .ok (.istore_n 3, 1) := by decide +kernel
theorem d_B_nextToWorkOn_41 : decode c_B_nextToWorkOn 41 = .ok (.iload_n 1, 1) := by decide +kernel
theorem d_B_nextToWorkOn_42 : decode c_B_nextToWorkOn 42 = .ok (.iload_n 2, 1) := by decide +kernel
theorem d_B_nextToWorkOn_43 : decode c_B_nextToWorkOn 43 = .ok (.invokestatic 140, 3) := by decide +kernel
theorem d_B_nextToWorkOn_46 : decode c_B_nextToWorkOn 46 = .ok (.ifCond .eq 9, 3) := by decide +kernel
theorem d_B_nextToWorkOn_49 : decode c_B_nextToWorkOn 49 = .ok (.iload_n 3, 1) := by decide +kernel
theorem d_B_nextToWorkOn_50 : decode c_B_nextToWorkOn 50 = .ok (.ifCond .eq 5, 3) := by decide +kernel
theorem d_B_nextToWorkOn_53 : decode c_B_nextToWorkOn 53 = .ok (.iload_n 2, 1) := by decide +kernel
theorem d_B_nextToWorkOn_54 : decode c_B_nextToWorkOn 54 = .ok (.ireturn, 1) := by decide +kernel
theorem d_B_nextToWorkOn_55 : decode c_B_nextToWorkOn 55 = .ok (.iinc 2 1, 3) := by decide +kernel
theorem d_B_nextToWorkOn_58 : decode c_B_nextToWorkOn 58 = .ok (.goto (-51), 3) := by decide +kernel
theorem d_B_nextToWorkOn_61 : decode c_B_nextToWorkOn 61 = .ok (.iconst (-1), 1) := by decide +kernel
theorem d_B_nextToWorkOn_62 : decode c_B_nextToWorkOn 62 = .ok (.ireturn, 1) := by decide +kernel
theorem d_B_staleCells_0 : decode c_B_staleCells 0 = .ok (.iconst 0, 1) := by decide +kernel
theorem d_B_staleCells_1 : decode c_B_staleCells 1 = .ok (.istore_n 1, 1) := by decide +kernel
theorem d_B_staleCells_2 : decode c_B_staleCells 2 = .ok (.iconst 0, 1) := by decide +kernel
theorem d_B_staleCells_3 : decode c_B_staleCells 3 = .ok (.istore_n 2, 1) := by decide +kernel
theorem d_B_staleCells_4 : decode c_B_staleCells 4 = .ok (.iload_n 2, 1) := by decide +kernel
theorem d_B_staleCells_5 : decode c_B_staleCells 5 = .ok (.bipush 10, 2) := by decide +kernel
theorem d_B_staleCells_7 : decode c_B_staleCells 7 = .ok (.if_icmp .ge 27, 3) := by decide +kernel
theorem d_B_staleCells_10 : decode c_B_staleCells 10 = .ok (.aload_n 0, 1) := by decide +kernel
theorem d_B_staleCells_11 : decode c_B_staleCells 11 = .ok (.getfield 11, 3) := by decide +kernel
theorem d_B_staleCells_14 : decode c_B_staleCells 14 = .ok (.iload_n 2, 1) := by decide +kernel
theorem d_B_staleCells_15 : decode c_B_staleCells 15 = .ok (.aaload, 1) := by decide +kernel
theorem d_B_staleCells_16 : decode c_B_staleCells 16 = .ok (.getfield 87, 3) := by decide +kernel
theorem d_B_staleCells_19 : decode c_B_staleCells 19 = .ok (.ifCond .eq 9, 3) := by decide +kernel
theorem d_B_staleCells_22 : decode c_B_staleCells 22 = .ok (.iload_n 1, 1) := by decide +kernel
theorem d_B_staleCells_23 : decode c_B_staleCells 23 = .ok (.iconst 1, 1) := by decide +kernel
theorem d_B_staleCells_24 : decode c_B_staleCells 24 = .ok (.iload_n 2, 1) := by decide +kernel
theorem d_B_staleCells_25 : decode c_B_staleCells 25 = .ok (.ishl, 1) := by decide +kernel
theorem d_B_staleCells_26 : decode c_B_staleCells 26 = .ok (.ior, 1) := by decide +kernel
theorem d_B_staleCells_27 : decode c_B_staleCells 27 = .ok (.istore_n 1, 1) := by decide +kernel
theorem d_B_staleCells_28 : decode c_B_staleCells 28 = .ok (.iinc 2 1, 3) := by decide +kernel
theorem d_B_staleCells_31 : decode c_B_staleCells 31 = .ok (.goto (-27), 3) := by decide +kernel
theorem d_B_staleCells_34 : decode c_B_staleCells 34 = .ok (.iload_n 1, 1) := by decide +kernel
theorem d_B_staleCells_35 : decode c_B_staleCells 35 = .ok (.ireturn, 1) := by decide +kernel
theorem d_B_workOn_0 : decode c_B_workOn 0 = .ok (.aload_n 0, 1) := by decide +kernel
theorem d_B_workOn_1 : decode c_B_workOn 1 = .ok (.getfield 11, 3) := by decide +kernel
theorem d_B_workOn_4 : decode c_B_workOn 4 = .ok (.iload_n 1, 1) := by decide +kernel
theorem d_B_workOn_5 : decode c_B_workOn 5 = .ok (.aaload, 1) := by decide +kernel
theorem d_B_workOn_6 : decode c_B_workOn 6 = .ok (.astore_n 2, 1) := by decide +kernel
theorem d_B_workOn_7 : decode c_B_workOn 7 = .ok (.aload_n 2, 1) := by decide +kernel
theorem d_B_workOn_8 : decode c_B_workOn 8 = .ok (.iconst 0, 1) := by decide +kernel
theorem d_B_workOn_9 : decode c_B_workOn 9 = .ok (.putfield 87, 3) := by decide +kernel
theorem d_B_workOn_12 : decode c_B_workOn 12 = .ok (.aload_n 2, 1) := by decide +kernel
theorem d_B_workOn_13 : decode c_B_workOn 13 = .ok (.getfield 125, 3) := by decide +kernel
theorem d_B_workOn_16 : decode c_B_workOn 16 = .ok (.ifCond .eq 4, 3) := by decide +kernel
theorem d_B_workOn_19 : decode c_B_workOn 19 = .ok (.return_, 1) := by decide +kernel
theorem d_B_workOn_20 : decode c_B_workOn 20 = .ok (.aload_n 0, 1) := by decide +kernel
theorem d_B_workOn_21 : decode c_B_workOn 21 = .ok (.iload_n 1, 1) := by decide +kernel
theorem d_B_workOn_22 : decode c_B_workOn 22 = .ok (.invokevirtual 137, 3) := by decide +kernel
theorem d_B_workOn_25 : decode c_B_workOn 25 = .ok (.aload_n 0, 1) := by decide +kernel
theorem d_B_workOn_26 : decode c_B_workOn 26 = .ok (.invokevirtual 160, 3) := by decide +kernel
theorem d_B_workOn_29 : decode c_B_workOn 29 = .ok (.iconst (-1), 1) := by decide +kernel
theorem d_B_workOn_30 : decode c_B_workOn 30 = .ok (.ixor, 1) := by decide +kernel
theorem d_B_workOn_31 : decode c_B_workOn 31 = .ok (.iand, 1) := by decide +kernel
theorem d_B_workOn_32 : decode c_B_workOn 32 = .ok (.ifCond .eq 9, 3) := by decide +kernel
theorem d_B_workOn_35 : decode c_B_workOn 35 = .ok (.aload_n 2, 1) := by decide +kernel
theorem d_B_workOn_36 : decode c_B_workOn 36 = .ok (.iconst 5, 1) := by decide +kernel
theorem d_B_workOn_37 : decode c_B_workOn 37 = .ok (.putfield 91, 3) := by decide +kernel
theorem d_B_workOn_40 : decode c_B_workOn 40 = .ok (.return_, 1) := by decide +kernel
theorem d_B_workOn_41 : decode c_B_workOn 41 = .ok (.aload_n 0, 1) := by decide +kernel
theorem d_B_workOn_42 : decode c_B_workOn 42 = .ok (.getfield 16, 3) := by decide +kernel
theorem d_B_workOn_45 : decode c_B_workOn 45 = .ok (.aload_n 2, 1) := by decide +kernel
theorem d_B_workOn_46 : decode c_B_workOn 46 = .ok (.getfield 57, 3) := by decide +kernel
theorem d_B_workOn_49 : decode c_B_workOn 49 = .ok (.invokestatic 163, 3) := by decide +kernel
theorem d_B_workOn_52 : decode c_B_workOn 52 = .ok (.istore_n 3, 1) := by decide +kernel
theorem d_B_workOn_53 : decode c_B_workOn 53 = .ok (.iload_n 3, 1) := by decide +kernel
theorem d_B_workOn_54 : decode c_B_workOn 54 = .ok (.ifCond .ne 12, 3) := by decide +kernel
theorem d_B_workOn_57 : decode c_B_workOn 57 = .ok (.aload_n 2, 1) := by decide +kernel
theorem d_B_workOn_58 : decode c_B_workOn 58 = .ok (.bipush 6, 2) := by decide +kernel
theorem d_B_workOn_60 : decode c_B_workOn 60 = .ok (.putfield 91, 3) := by decide +kernel
theorem d_B_workOn_63 : decode c_B_workOn 63 = .ok (.goto 35, 3) := by decide +kernel
theorem d_B_workOn_66 : decode c_B_workOn 66 = .ok (.aload_n 2, 1) := by decide +kernel
theorem d_B_workOn_67 : decode c_B_workOn 67 = .ok (.getfield 57, 3) := by decide +kernel
theorem d_B_workOn_70 : decode c_B_workOn 70 = .ok (.invokevirtual 134, 3) := by decide +kernel
theorem d_B_workOn_73 : decode c_B_workOn 73 = .ok (.ifCond .eq 12, 3) := by decide +kernel
theorem d_B_workOn_76 : decode c_B_workOn 76 = .ok (.aload_n 2, 1) := by decide +kernel
theorem d_B_workOn_77 : decode c_B_workOn 77 = .ok (.bipush 13, 2) := by decide +kernel
theorem d_B_workOn_79 : decode c_B_workOn 79 = .ok (.putfield 91, 3) := by decide +kernel
theorem d_B_workOn_82 : decode c_B_workOn 82 = .ok (.goto 16, 3) := by decide +kernel
theorem d_B_workOn_85 : decode c_B_workOn 85 = .ok (.aload_n 0, 1) := by decide +kernel
theorem d_B_workOn_86 : decode c_B_workOn 86 = .ok (.getfield 26, 3) := by decide +kernel
theorem d_B_workOn_89 : decode c_B_workOn 89 = .ok (.aload_n 2, 1) := by decide +kernel
theorem d_B_workOn_90 : decode c_B_workOn 90 = .ok (.iload_n 3, 1) := by decide +kernel
theorem d_B_workOn_91 : decode c_B_workOn 91 = .ok (.aload_n 0, 1) := by decide +kernel
theorem d_B_workOn_92 : decode c_B_workOn 92 = .ok (.getfield 16, 3) := by decide +kernel
theorem d_B_workOn_95 : decode c_B_workOn 95 = .ok (.invokevirtual 169, 3) := by decide +kernel
theorem d_B_workOn_98 : decode c_B_workOn 98 = .ok (.return_, 1) := by decide +kernel
theorem d_B_usableCells_0 : decode c_B_usableCells 0 = .ok (.iconst 0, 1) := by decide +kernel
theorem d_B_usableCells_1 : decode c_B_usableCells 1 = .ok (.istore_n 1, 1) := by decide +kernel
theorem d_B_usableCells_2 : decode c_B_usableCells 2 = .ok (.iconst 0, 1) := by decide +kernel
theorem d_B_usableCells_3 : decode c_B_usableCells 3 = .ok (.istore_n 2, 1) := by decide +kernel
theorem d_B_usableCells_4 : decode c_B_usableCells 4 = .ok (.iload_n 2, 1) := by decide +kernel
theorem d_B_usableCells_5 : decode c_B_usableCells 5 = .ok (.bipush 10, 2) := by decide +kernel
theorem d_B_usableCells_7 : decode c_B_usableCells 7 = .ok (.if_icmp .ge 27, 3) := by decide +kernel
theorem d_B_usableCells_10 : decode c_B_usableCells 10 = .ok (.aload_n 0, 1) := by decide +kernel
theorem d_B_usableCells_11 : decode c_B_usableCells 11 = .ok (.getfield 11, 3) := by decide +kernel
theorem d_B_usableCells_14 : decode c_B_usableCells 14 = .ok (.iload_n 2, 1) := by decide +kernel
theorem d_B_usableCells_15 : decode c_B_usableCells 15 = .ok (.aaload, 1) := by decide +kernel
theorem d_B_usableCells_16 : decode c_B_usableCells 16 = .ok (.invokevirtual 157, 3) := by decide +kernel
theorem d_B_usableCells_19 : decode c_B_usableCells 19 = .ok (.ifCond .eq 9, 3) := by decide +kernel
theorem d_B_usableCells_22 : decode c_B_usableCells 22 = .ok (.iload_n 1, 1) := by decide +kernel
theorem d_B_usableCells_23 : decode c_B_usableCells 23 = .ok (.iconst 1, 1) := by decide +kernel
theorem d_B_usableCells_24 : decode c_B_usableCells 24 = .ok (.iload_n 2, 1) := by decide +kernel
theorem d_B_usableCells_25 : decode c_B_usableCells 25 = .ok (.ishl, 1) := by decide +kernel
theorem d_B_usableCells_26 : decode c_B_usableCells 26 = .ok (.ior, 1) := by decide +kernel
theorem d_B_usableCells_27 : decode c_B_usableCells 27 = .ok (.istore_n 1, 1) := by decide +kernel
theorem d_B_usableCells_28 : decode c_B_usableCells 28 = .ok (.iinc 2 1, 3) := by decide +kernel
theorem d_B_usableCells_31 : decode c_B_usableCells 31 = .ok (.goto (-27), 3) := by decide +kernel
theorem d_B_usableCells_34 : decode c_B_usableCells 34 = .ok (.iload_n 1, 1) := by decide +kernel
theorem d_B_usableCells_35 : decode c_B_usableCells 35 = .ok (.ireturn, 1) := by decide +kernel
theorem d_Ce_isUsable_0 : decode c_Ce_isUsable 0 = .ok (.aload_n 0, 1) := by decide +kernel
theorem d_Ce_isUsable_1 : decode c_Ce_isUsable 1 = .ok (.invokevirtual 48, 3) := by decide +kernel
theorem d_Ce_isUsable_4 : decode c_Ce_isUsable 4 = .ok (.istore_n 1, 1) := by decide +kernel
theorem d_Ce_isUsable_5 : decode c_Ce_isUsable 5 = .ok (.iload_n 1, 1) := by decide +kernel
theorem d_Ce_isUsable_6 : decode c_Ce_isUsable 6 = .ok (.bipush 14, 2) := by decide +kernel
theorem d_Ce_isUsable_8 : decode c_Ce_isUsable 8 = .ok (.if_icmp .eq 9, 3) := by decide +kernel
theorem d_Ce_isUsable_11 : decode c_Ce_isUsable 11 = .ok (.iload_n 1, 1) := by decide +kernel
theorem d_Ce_isUsable_12 : decode c_Ce_isUsable 12 = .ok (.bipush 13, 2) := by decide +kernel
theorem d_Ce_isUsable_14 : decode c_Ce_isUsable 14 = .ok (.if_icmp .ne 7, 3) := by decide +kernel
theorem d_Ce_isUsable_17 : decode c_Ce_isUsable 17 = .ok (.iconst 1, 1) := by decide +kernel
theorem d_Ce_isUsable_18 : decode c_Ce_isUsable 18 = .ok (.goto 4, 3) := by decide +kernel
theorem d_Ce_isUsable_21 : decode c_Ce_isUsable 21 = .ok (.iconst 0, 1) := by decide +kernel
theorem d_Ce_isUsable_22 : decode c_Ce_isUsable 22 = .ok (.ireturn, 1) := by decide +kernel
theorem d_Ce_shown_0 : decode c_Ce_shown 0 = .ok (.aload_n 0, 1) := by decide +kernel
theorem d_Ce_shown_1 : decode c_Ce_shown 1 = .ok (.invokevirtual 44, 3) := by decide +kernel
theorem d_Ce_shown_4 : decode c_Ce_shown 4 = .ok (.ifCond .eq 5, 3) := by decide +kernel
theorem d_Ce_shown_7 : decode c_Ce_shown 7 = .ok (.iconst 0, 1) := by decide +kernel
theorem d_Ce_shown_8 : decode c_Ce_shown 8 = .ok (.ireturn, 1) := by decide +kernel
theorem d_Ce_shown_9 : decode c_Ce_shown 9 = .ok (.aload_n 0, 1) := by decide +kernel
theorem d_Ce_shown_10 : decode c_Ce_shown 10 = .ok (.getfield 22, 3) := by decide +kernel
theorem d_Ce_shown_13 : decode c_Ce_shown 13 = .ok (.ifCond .eq 8, 3) := by decide +kernel
theorem d_Ce_shown_16 : decode c_Ce_shown 16 = .ok (.aload_n 0, 1) := by decide +kernel
theorem d_Ce_shown_17 : decode c_Ce_shown 17 = .ok (.getfield 22, 3) := by decide +kernel
theorem d_Ce_shown_20 : decode c_Ce_shown 20 = .ok (.ireturn, 1) := by decide +kernel
theorem d_Ce_shown_21 : decode c_Ce_shown 21 = .ok (.aload_n 0, 1) := by decide +kernel
theorem d_Ce_shown_22 : decode c_Ce_shown 22 = .ok (.getfield 25, 3) := by decide +kernel
theorem d_Ce_shown_25 : decode c_Ce_shown 25 = .ok (.ifCond .eq 8, 3) := by decide +kernel
theorem d_Ce_shown_28 : decode c_Ce_shown 28 = .ok (.bipush 12, 2) := by decide +kernel
theorem d_Ce_shown_30 : decode c_Ce_shown 30 = .ok (.goto 7, 3) := by decide +kernel
end
section
theorem d_Ce_shown_33 : decode c_Ce_shown 33 = .ok (.aload_n 0, 1) := by decide +kernel
theorem d_Ce_shown_34 : decode c_Ce_shown 34 = .ok (.getfield 29, 3) := by decide +kernel
theorem d_Ce_shown_37 : decode c_Ce_shown 37 = .ok (.ireturn, 1) := by decide +kernel
theorem d_Ty_ofText_0 : decode c_Ty_ofText 0 = .ok (.aload_n 0, 1) := by decide +kernel
theorem d_Ty_ofText_1 : decode c_Ty_ofText 1 = .ok (.aload_n 1, 1) := by decide +kernel
theorem d_Ty_ofText_2 : decode c_Ty_ofText 2 = .ok (.aload_n 1, 1) := by decide +kernel
theorem d_Ty_ofText_3 : decode c_Ty_ofText 3 = .ok (.getfield 9, 3) := by decide +kernel
theorem d_Ty_ofText_6 : decode c_Ty_ofText 6 = .ok (.iconst 0, 1) := by decide +kernel
theorem d_Ty_ofText_7 : decode c_Ty_ofText 7 = .ok (.invokestatic 15, 3) := by decide +kernel
theorem d_Ty_ofText_10 : decode c_Ty_ofText 10 = .ok (.istore_n 2, 1) := by decide +kernel
theorem d_Ty_ofText_11 : decode c_Ty_ofText 11 = .ok (.aload_n 1, 1) := by decide +kernel
theorem d_Ty_ofText_12 : decode c_Ty_ofText 12 = .ok (.invokevirtual 21, 3) := by decide +kernel
theorem d_Ty_ofText_15 : decode c_Ty_ofText 15 = .ok (.ifCond .eq 12, 3) := by decide +kernel
theorem d_Ty_ofText_18 : decode c_Ty_ofText 18 = .ok (.iload_n 2, 1) := by decide +kernel
theorem d_Ty_ofText_19 : decode c_Ty_ofText 19 = .ok (.iconst 1, 1) := by decide +kernel
theorem d_Ty_ofText_20 : decode c_Ty_ofText 20 = .ok (.if_icmp .eq 7, 3) := by decide +kernel
theorem d_Ty_ofText_23 : decode c_Ty_ofText 23 = .ok (.iconst 0, 1) := by decide +kernel
theorem d_Ty_ofText_24 : decode c_Ty_ofText 24 = .ok (.goto 4, 3) := by decide +kernel
theorem d_Ty_ofText_27 : decode c_Ty_ofText 27 = .ok (.iload_n 2, 1) := by decide +kernel
theorem d_Ty_ofText_28 : decode c_Ty_ofText 28 = .ok (.ireturn, 1) := by decide +kernel
theorem d_Ty_ofExpression_0 : decode c_Ty_ofExpression 0 = .ok (.iload_n 3, 1) := by decide +kernel
theorem d_Ty_ofExpression_1 : decode c_Ty_ofExpression 1 = .ok (.iconst 5, 1) := by decide +kernel
theorem d_Ty_ofExpression_2 : decode c_Ty_ofExpression 2 = .ok (.if_icmp .le 5, 3) := by decide +kernel
theorem d_Ty_ofExpression_5 : decode c_Ty_ofExpression 5 = .ok (.iconst 0, 1) := by decide +kernel
theorem d_Ty_ofExpression_6 : decode c_Ty_ofExpression 6 = .ok (.ireturn, 1) := by decide +kernel
theorem d_Ty_ofExpression_7 : decode c_Ty_ofExpression 7 = .ok (.aload_n 1, 1) := by decide +kernel
theorem d_Ty_ofExpression_8 : decode c_Ty_ofExpression 8 = .ok (.iload_n 2, 1) := by decide +kernel
theorem d_Ty_ofExpression_9 : decode c_Ty_ofExpression 9 = .ok (.invokevirtual 25, 3) := by decide +kernel
theorem d_Ty_ofExpression_12 : decode c_Ty_ofExpression 12 = .ok (.lookupswitch 212 #[(33, 196), (35, 204), (36, 188), (38, 142), (42, 108), (43, 108), (45, 108), (47, 108), (60, 125), (61, 125), (63, 180), (126, 159)], 108) := by decide +kernel
theorem d_Ty_ofExpression_120 : decode c_Ty_ofExpression 120 = .ok (.iconst 1, 1) := by decide +kernel
theorem d_Ty_ofExpression_121 : decode c_Ty_ofExpression 121 = .ok (.aload_n 0, 1) := by decide +kernel
theorem d_Ty_ofExpression_122 : decode c_Ty_ofExpression 122 = .ok (.aload_n 1, 1) := by decide +kernel
theorem d_Ty_ofExpression_123 : decode c_Ty_ofExpression 123 = .ok (.iload_n 2, 1) := by decide +kernel
theorem d_Ty_ofExpression_124 : decode c_Ty_ofExpression 124 = .ok (.iload_n 3, 1) := by decide +kernel
theorem d_Ty_ofExpression_125 : decode c_Ty_ofExpression 125 = .ok (.invokestatic 29, 3) := by decide +kernel
theorem d_Ty_ofExpression_128 : decode c_Ty_ofExpression 128 = .ok (.ifCond .eq 7, 3) := by decide +kernel
theorem d_Ty_ofExpression_131 : decode c_Ty_ofExpression 131 = .ok (.iconst 1, 1) := by decide +kernel
theorem d_Ty_ofExpression_132 : decode c_Ty_ofExpression 132 = .ok (.goto 4, 3) := by decide +kernel
theorem d_Ty_ofExpression_135 : decode c_Ty_ofExpression 135 = .ok (.iconst 0, 1) := by decide +kernel
theorem d_Ty_ofExpression_136 : decode c_Ty_ofExpression 136 = .ok (.ireturn, 1) := by decide +kernel
theorem d_Ty_ofExpression_137 : decode c_Ty_ofExpression 137 = .ok (.iconst 1, 1) := by decide +kernel
theorem d_Ty_ofExpression_138 : decode c_Ty_ofExpression 138 = .ok (.aload_n 0, 1) := by decide +kernel
theorem d_Ty_ofExpression_139 : decode c_Ty_ofExpression 139 = .ok (.aload_n 1, 1) := by decide +kernel
theorem d_Ty_ofExpression_140 : decode c_Ty_ofExpression 140 = .ok (.iload_n 2, 1) := by decide +kernel
theorem d_Ty_ofExpression_141 : decode c_Ty_ofExpression 141 = .ok (.iload_n 3, 1) := by decide +kernel
theorem d_Ty_ofExpression_142 : decode c_Ty_ofExpression 142 = .ok (.invokestatic 29, 3) := by decide +kernel
theorem d_Ty_ofExpression_145 : decode c_Ty_ofExpression 145 = .ok (.ifCond .eq 7, 3) := by decide +kernel
theorem d_Ty_ofExpression_148 : decode c_Ty_ofExpression 148 = .ok (.iconst 2, 1) := by decide +kernel
theorem d_Ty_ofExpression_149 : decode c_Ty_ofExpression 149 = .ok (.goto 4, 3) := by decide +kernel
theorem d_Ty_ofExpression_152 : decode c_Ty_ofExpression 152 = .ok (.iconst 0, 1) := by decide +kernel
theorem d_Ty_ofExpression_153 : decode c_Ty_ofExpression 153 = .ok (.ireturn, 1) := by decide +kernel
theorem d_Ty_ofExpression_154 : decode c_Ty_ofExpression 154 = .ok (.iconst 2, 1) := by decide +kernel
theorem d_Ty_ofExpression_155 : decode c_Ty_ofExpression 155 = .ok (.aload_n 0, 1) := by decide +kernel
theorem d_Ty_ofExpression_156 : decode c_Ty_ofExpression 156 = .ok (.aload_n 1, 1) := by decide +kernel
theorem d_Ty_ofExpression_157 : decode c_Ty_ofExpression 157 = .ok (.iload_n 2, 1) := by decide +kernel
theorem d_Ty_ofExpression_158 : decode c_Ty_ofExpression 158 = .ok (.iload_n 3, 1) := by decide +kernel
theorem d_Ty_ofExpression_159 : decode c_Ty_ofExpression 159 = .ok (.invokestatic 29, 3) := by decide +kernel
theorem d_Ty_ofExpression_162 : decode c_Ty_ofExpression 162 = .ok (.ifCond .eq 7, 3) := by decide +kernel
theorem d_Ty_ofExpression_165 : decode c_Ty_ofExpression 165 = .ok (.iconst 2, 1) := by decide +kernel
theorem d_Ty_ofExpression_166 : decode c_Ty_ofExpression 166 = .ok (.goto 4, 3) := by decide +kernel
theorem d_Ty_ofExpression_169 : decode c_Ty_ofExpression 169 = .ok (.iconst 0, 1) := by decide +kernel
theorem d_Ty_ofExpression_170 : decode c_Ty_ofExpression 170 = .ok (.ireturn, 1) := by decide +kernel
theorem d_Ty_ofExpression_171 : decode c_Ty_ofExpression 171 = .ok (.aload_n 0, 1) := by decide +kernel
theorem d_Ty_ofExpression_172 : decode c_Ty_ofExpression 172 = .ok (.aload_n 1, 1) := by decide +kernel
theorem d_Ty_ofExpression_173 : decode c_Ty_ofExpression 173 = .ok (.iload_n 2, 1) := by decide +kernel
theorem d_Ty_ofExpression_174 : decode c_Ty_ofExpression 174 = .ok (.iconst 1, 1) := by decide +kernel
theorem d_Ty_ofExpression_175 : decode c_Ty_ofExpression 175 = .ok (.iadd, 1) := by decide +kernel
theorem d_Ty_ofExpression_176 : decode c_Ty_ofExpression 176 = .ok (.iload_n 3, 1) := by decide +kernel
theorem d_Ty_ofExpression_177 : decode c_Ty_ofExpression 177 = .ok (.iconst 1, 1) := by decide +kernel
theorem d_Ty_ofExpression_178 : decode c_Ty_ofExpression 178 = .ok (.iadd, 1) := by decide +kernel
theorem d_Ty_ofExpression_179 : decode c_Ty_ofExpression 179 = .ok (.invokestatic 15, 3) := by decide +kernel
theorem d_Ty_ofExpression_182 : decode c_Ty_ofExpression 182 = .ok (.iconst 2, 1) := by decide +kernel
theorem d_Ty_ofExpression_183 : decode c_Ty_ofExpression 183 = .ok (.if_icmp .ne 7, 3) := by decide +kernel
theorem d_Ty_ofExpression_186 : decode c_Ty_ofExpression 186 = .ok (.iconst 2, 1) := by decide +kernel
theorem d_Ty_ofExpression_187 : decode c_Ty_ofExpression 187 = .ok (.goto 4, 3) := by decide +kernel
theorem d_Ty_ofExpression_190 : decode c_Ty_ofExpression 190 = .ok (.iconst 0, 1) := by decide +kernel
theorem d_Ty_ofExpression_191 : decode c_Ty_ofExpression 191 = .ok (.ireturn, 1) := by decide +kernel
theorem d_Ty_ofExpression_192 : decode c_Ty_ofExpression 192 = .ok (.aload_n 0, 1) := by decide +kernel
theorem d_Ty_ofExpression_193 : decode c_Ty_ofExpression 193 = .ok (.aload_n 1, 1) := by decide +kernel
theorem d_Ty_ofExpression_194 : decode c_Ty_ofExpression 194 = .ok (.iload_n 2, 1) := by decide +kernel
theorem d_Ty_ofExpression_195 : decode c_Ty_ofExpression 195 = .ok (.iload_n 3, 1) := by decide +kernel
theorem d_Ty_ofExpression_196 : decode c_Ty_ofExpression 196 = .ok (.invokestatic 33, 3) := by decide +kernel
theorem d_Ty_ofExpression_199 : decode c_Ty_ofExpression 199 = .ok (.ireturn, 1) := by decide +kernel
theorem d_Ty_ofExpression_200 : decode c_Ty_ofExpression 200 = .ok (.aload_n 0, 1) := by decide +kernel
theorem d_Ty_ofExpression_201 : decode c_Ty_ofExpression 201 = .ok (.aload_n 1, 1) := by decide +kernel
theorem d_Ty_ofExpression_202 : decode c_Ty_ofExpression 202 = .ok (.iload_n 2, 1) := by decide +kernel
theorem d_Ty_ofExpression_203 : decode c_Ty_ofExpression 203 = .ok (.iload_n 3, 1) := by decide +kernel
theorem d_Ty_ofExpression_204 : decode c_Ty_ofExpression 204 = .ok (.invokestatic 36, 3) := by decide +kernel
theorem d_Ty_ofExpression_207 : decode c_Ty_ofExpression 207 = .ok (.ireturn, 1) := by decide +kernel
theorem d_Ty_ofExpression_208 : decode c_Ty_ofExpression 208 = .ok (.aload_n 0, 1) := by decide +kernel
theorem d_Ty_ofExpression_209 : decode c_Ty_ofExpression 209 = .ok (.aload_n 1, 1) := by decide +kernel
theorem d_Ty_ofExpression_210 : decode c_Ty_ofExpression 210 = .ok (.iload_n 2, 1) := by decide +kernel
theorem d_Ty_ofExpression_211 : decode c_Ty_ofExpression 211 = .ok (.iload_n 3, 1) := by decide +kernel
theorem d_Ty_ofExpression_212 : decode c_Ty_ofExpression 212 = .ok (.invokestatic 39, 3) := by decide +kernel
theorem d_Ty_ofExpression_215 : decode c_Ty_ofExpression 215 = .ok (.ireturn, 1) := by decide +kernel
theorem d_Ty_ofExpression_216 : decode c_Ty_ofExpression 216 = .ok (.aload_n 0, 1) := by decide +kernel
theorem d_Ty_ofExpression_217 : decode c_Ty_ofExpression 217 = .ok (.aload_n 1, 1) := by decide +kernel
theorem d_Ty_ofExpression_218 : decode c_Ty_ofExpression 218 = .ok (.iload_n 2, 1) := by decide +kernel
theorem d_Ty_ofExpression_219 : decode c_Ty_ofExpression 219 = .ok (.iload_n 3, 1) := by decide +kernel
theorem d_Ty_ofExpression_220 : decode c_Ty_ofExpression 220 = .ok (.invokestatic 42, 3) := by decide +kernel
theorem d_Ty_ofExpression_223 : decode c_Ty_ofExpression 223 = .ok (.ireturn, 1) := by decide +kernel
theorem d_Ty_ofExpression_224 : decode c_Ty_ofExpression 224 = .ok (.aload_n 0, 1) := by decide +kernel
theorem d_Ty_ofExpression_225 : decode c_Ty_ofExpression 225 = .ok (.aload_n 1, 1) := by decide +kernel
theorem d_Ty_ofExpression_226 : decode c_Ty_ofExpression 226 = .ok (.iload_n 2, 1) := by decide +kernel
theorem d_Ty_ofExpression_227 : decode c_Ty_ofExpression 227 = .ok (.invokevirtual 25, 3) := by decide +kernel
theorem d_Ty_ofExpression_230 : decode c_Ty_ofExpression 230 = .ok (.invokestatic 45, 3) := by decide +kernel
theorem d_Ty_ofExpression_233 : decode c_Ty_ofExpression 233 = .ok (.ireturn, 1) := by decide +kernel
theorem d_Ty_areBoth_0 : decode c_Ty_areBoth 0 = .ok (.aload_n 2, 1) := by decide +kernel
theorem d_Ty_areBoth_1 : decode c_Ty_areBoth 1 = .ok (.iload_n 3, 1) := by decide +kernel
theorem d_Ty_areBoth_2 : decode c_Ty_areBoth 2 = .ok (.iconst 1, 1) := by decide +kernel
theorem d_Ty_areBoth_3 : decode c_Ty_areBoth 3 = .ok (.iadd, 1) := by decide +kernel
theorem d_Ty_areBoth_4 : decode c_Ty_areBoth 4 = .ok (.invokevirtual 49, 3) := by decide +kernel
theorem d_Ty_areBoth_7 : decode c_Ty_areBoth 7 = .ok (.istore 5, 2) := by decide +kernel
theorem d_Ty_areBoth_9 : decode c_Ty_areBoth 9 = .ok (.aload_n 1, 1) := by decide +kernel
theorem d_Ty_areBoth_10 : decode c_Ty_areBoth 10 = .ok (.aload_n 2, 1) := by decide +kernel
theorem d_Ty_areBoth_11 : decode c_Ty_areBoth 11 = .ok (.iload_n 3, 1) := by decide +kernel
theorem d_Ty_areBoth_12 : decode c_Ty_areBoth 12 = .ok (.iconst 1, 1) := by decide +kernel
theorem d_Ty_areBoth_13 : decode c_Ty_areBoth 13 = .ok (.iadd, 1) := by decide +kernel
theorem d_Ty_areBoth_14 : decode c_Ty_areBoth 14 = .ok (.iload 4, 2) := by decide +kernel
theorem d_Ty_areBoth_16 : decode c_Ty_areBoth 16 = .ok (.iconst 1, 1) := by decide +kernel
theorem d_Ty_areBoth_17 : decode c_Ty_areBoth 17 = .ok (.iadd, 1) := by decide +kernel
theorem d_Ty_areBoth_18 : decode c_Ty_areBoth 18 = .ok (.invokestatic 15, 3) := by decide +kernel
theorem d_Ty_areBoth_21 : decode c_Ty_areBoth 21 = .ok (.iload_n 0, 1) := by decide +kernel
theorem d_Ty_areBoth_22 : decode c_Ty_areBoth 22 = .ok (.if_icmp .ne 22, 3) := by decide +kernel
theorem d_Ty_areBoth_25 : decode c_Ty_areBoth 25 = .ok (.aload_n 1, 1) := by decide +kernel
theorem d_Ty_areBoth_26 : decode c_Ty_areBoth 26 = .ok (.aload_n 2, 1) := by decide +kernel
theorem d_Ty_areBoth_27 : decode c_Ty_areBoth 27 = .ok (.iload 5, 2) := by decide +kernel
theorem d_Ty_areBoth_29 : decode c_Ty_areBoth 29 = .ok (.iload 4, 2) := by decide +kernel
theorem d_Ty_areBoth_31 : decode c_Ty_areBoth 31 = .ok (.iconst 1, 1) := by decide +kernel
theorem d_Ty_areBoth_32 : decode c_Ty_areBoth 32 = .ok (.iadd, 1) := by decide +kernel
theorem d_Ty_areBoth_33 : decode c_Ty_areBoth 33 = .ok (.invokestatic 15, 3) := by decide +kernel
theorem d_Ty_areBoth_36 : decode c_Ty_areBoth 36 = .ok (.iload_n 0, 1) := by decide +kernel
theorem d_Ty_areBoth_37 : decode c_Ty_areBoth 37 = .ok (.if_icmp .ne 7, 3) := by decide +kernel
theorem d_Ty_areBoth_40 : decode c_Ty_areBoth 40 = .ok (.iconst 1, 1) := by decide +kernel
theorem d_Ty_areBoth_41 : decode c_Ty_areBoth 41 = .ok (.goto 4, 3) := by decide +kernel
theorem d_Ty_areBoth_44 : decode c_Ty_areBoth 44 = .ok (.iconst 0, 1) := by decide +kernel
theorem d_Ty_areBoth_45 : decode c_Ty_areBoth 45 = .ok (.ireturn, 1) := by decide +kernel
theorem d_Te_endOf_0 : decode c_Te_endOf 0 = .ok (.iload_n 1, 1) := by decide +kernel
theorem d_Te_endOf_1 : decode c_Te_endOf 1 = .ok (.ifCond .lt 20, 3) := by decide +kernel
theorem d_Te_endOf_4 : decode c_Te_endOf 4 = .ok (.iload_n 1, 1) := by decide +kernel
theorem d_Te_endOf_5 : decode c_Te_endOf 5 = .ok (.aload_n 0, 1) := by decide +kernel
theorem d_Te_endOf_6 : decode c_Te_endOf 6 = .ok (.getfield 19, 3) := by decide +kernel
theorem d_Te_endOf_9 : decode c_Te_endOf 9 = .ok (.if_icmp .ge 12, 3) := by decide +kernel
theorem d_Te_endOf_12 : decode c_Te_endOf 12 = .ok (.aload_n 0, 1) := by decide +kernel
theorem d_Te_endOf_13 : decode c_Te_endOf 13 = .ok (.getfield 15, 3) := by decide +kernel
theorem d_Te_endOf_16 : decode c_Te_endOf 16 = .ok (.iload_n 1, 1) := by decide +kernel
theorem d_Te_endOf_17 : decode c_Te_endOf 17 = .ok (.iaload, 1) := by decide +kernel
theorem d_Te_endOf_18 : decode c_Te_endOf 18 = .ok (.goto 7, 3) := by decide +kernel
theorem d_Te_endOf_21 : decode c_Te_endOf 21 = .ok (.aload_n 0, 1) := by decide +kernel
theorem d_Te_endOf_22 : decode c_Te_endOf 22 = .ok (.getfield 19, 3) := by decide +kernel
theorem d_Te_endOf_25 : decode c_Te_endOf 25 = .ok (.ireturn, 1) := by decide +kernel
theorem d_Ty_ofChoice_0 : decode c_Ty_ofChoice 0 = .ok (.aload_n 1, 1) := by decide +kernel
theorem d_Ty_ofChoice_1 : decode c_Ty_ofChoice 1 = .ok (.iload_n 2, 1) := by decide +kernel
theorem d_Ty_ofChoice_2 : decode c_Ty_ofChoice 2 = .ok (.iconst 1, 1) := by decide +kernel
theorem d_Ty_ofChoice_3 : decode c_Ty_ofChoice 3 = .ok (.iadd, 1) := by decide +kernel
theorem d_Ty_ofChoice_4 : decode c_Ty_ofChoice 4 = .ok (.invokevirtual 49, 3) := by decide +kernel
theorem d_Ty_ofChoice_7 : decode c_Ty_ofChoice 7 = .ok (.istore 4, 2) := by decide +kernel
theorem d_Ty_ofChoice_9 : decode c_Ty_ofChoice 9 = .ok (.aload_n 1, 1) := by decide +kernel
theorem d_Ty_ofChoice_10 : decode c_Ty_ofChoice 10 = .ok (.iload 4, 2) := by decide +kernel
theorem d_Ty_ofChoice_12 : decode c_Ty_ofChoice 12 = .ok (.invokevirtual 49, 3) := by decide +kernel
theorem d_Ty_ofChoice_15 : decode c_Ty_ofChoice 15 = .ok (.istore 5, 2) := by decide +kernel
theorem d_Ty_ofChoice_17 : decode c_Ty_ofChoice 17 = .ok (.aload_n 0, 1) := by decide +kernel
theorem d_Ty_ofChoice_18 : decode c_Ty_ofChoice 18 = .ok (.aload_n 1, 1) := by decide +kernel
theorem d_Ty_ofChoice_19 : decode c_Ty_ofChoice 19 = .ok (.iload_n 2, 1) := by decide +kernel
theorem d_Ty_ofChoice_20 : decode c_Ty_ofChoice 20 = .ok (.iconst 1, 1) := by decide +kernel
theorem d_Ty_ofChoice_21 : decode c_Ty_ofChoice 21 = .ok (.iadd, 1) := by decide +kernel
theorem d_Ty_ofChoice_22 : decode c_Ty_ofChoice 22 = .ok (.iload_n 3, 1) := by decide +kernel
theorem d_Ty_ofChoice_23 : decode c_Ty_ofChoice 23 = .ok (.iconst 1, 1) := by decide +kernel
theorem d_Ty_ofChoice_24 : decode c_Ty_ofChoice 24 = .ok (.iadd, 1) := by decide +kernel
theorem d_Ty_ofChoice_25 : decode c_Ty_ofChoice 25 = .ok (.invokestatic 15, 3) := by decide +kernel
theorem d_Ty_ofChoice_28 : decode c_Ty_ofChoice 28 = .ok (.iconst 2, 1) := by decide +kernel
theorem d_Ty_ofChoice_29 : decode c_Ty_ofChoice 29 = .ok (.if_icmp .eq 5, 3) := by decide +kernel
theorem d_Ty_ofChoice_32 : decode c_Ty_ofChoice 32 = .ok (.iconst 0, 1) := by decide +kernel
theorem d_Ty_ofChoice_33 : decode c_Ty_ofChoice 33 = .ok (.ireturn, 1) := by decide +kernel
theorem d_Ty_ofChoice_34 : decode c_Ty_ofChoice 34 = .ok (.aload_n 0, 1) := by decide +kernel
theorem d_Ty_ofChoice_35 : decode c_Ty_ofChoice 35 = .ok (.aload_n 1, 1) := by decide +kernel
theorem d_Ty_ofChoice_36 : decode c_Ty_ofChoice 36 = .ok (.iload 4, 2) := by decide +kernel
theorem d_Ty_ofChoice_38 : decode c_Ty_ofChoice 38 = .ok (.iload_n 3, 1) := by decide +kernel
theorem d_Ty_ofChoice_39 : decode c_Ty_ofChoice 39 = .ok (.iconst 1, 1) := by decide +kernel
theorem d_Ty_ofChoice_40 : decode c_Ty_ofChoice 40 = .ok (.iadd, 1) := by decide +kernel
theorem d_Ty_ofChoice_41 : decode c_Ty_ofChoice 41 = .ok (.invokestatic 15, 3) := by decide +kernel
theorem d_Ty_ofChoice_44 : decode c_Ty_ofChoice 44 = .ok (.istore 6, 2) := by decide +kernel
theorem d_Ty_ofChoice_46 : decode c_Ty_ofChoice 46 = .ok (.aload_n 0, 1) := by decide +kernel
theorem d_Ty_ofChoice_47 : decode c_Ty_ofChoice 47 = .ok (.aload_n 1, 1) := by decide +kernel
theorem d_Ty_ofChoice_48 : decode c_Ty_ofChoice 48 = .ok (.iload 5, 2) := by decide +kernel
theorem d_Ty_ofChoice_50 : decode c_Ty_ofChoice 50 = .ok (.iload_n 3, 1) := by decide +kernel
theorem d_Ty_ofChoice_51 : decode c_Ty_ofChoice 51 = .ok (.iconst 1, 1) := by decide +kernel
theorem d_Ty_ofChoice_52 : decode c_Ty_ofChoice 52 = .ok (.iadd, 1) := by decide +kernel
theorem d_Ty_ofChoice_53 : decode c_Ty_ofChoice 53 = .ok (.invokestatic 15, 3) := by decide +kernel
theorem d_Ty_ofChoice_56 : decode c_Ty_ofChoice 56 = .ok (.iload 6, 2) := by decide +kernel
theorem d_Ty_ofChoice_58 : decode c_Ty_ofChoice 58 = .ok (.if_icmp .ne 8, 3) := by decide +kernel
theorem d_Ty_ofChoice_61 : decode c_Ty_ofChoice 61 = .ok (.iload 6, 2) := by decide +kernel
theorem d_Ty_ofChoice_63 : decode c_Ty_ofChoice 63 = .ok (.goto 4, 3) := by decide +kernel
theorem d_Ty_ofChoice_66 : decode c_Ty_ofChoice 66 = .ok (.iconst 0, 1) := by decide +kernel
theorem d_Ty_ofChoice_67 : decode c_Ty_ofChoice 67 = .ok (.ireturn, 1) := by decide +kernel
theorem d_Ty_ofBinding_0 : decode c_Ty_ofBinding 0 = .ok (.aload_n 1, 1) := by decide +kernel
theorem d_Ty_ofBinding_1 : decode c_Ty_ofBinding 1 = .ok (.iload_n 2, 1) := by decide +kernel
theorem d_Ty_ofBinding_2 : decode c_Ty_ofBinding 2 = .ok (.iconst 2, 1) := by decide +kernel
theorem d_Ty_ofBinding_3 : decode c_Ty_ofBinding 3 = .ok (.iadd, 1) := by decide +kernel
theorem d_Ty_ofBinding_4 : decode c_Ty_ofBinding 4 = .ok (.invokevirtual 49, 3) := by decide +kernel
theorem d_Ty_ofBinding_7 : decode c_Ty_ofBinding 7 = .ok (.istore 4, 2) := by decide +kernel
theorem d_Ty_ofBinding_9 : decode c_Ty_ofBinding 9 = .ok (.aload_n 0, 1) := by decide +kernel
theorem d_Ty_ofBinding_10 : decode c_Ty_ofBinding 10 = .ok (.aload_n 1, 1) := by decide +kernel
theorem d_Ty_ofBinding_11 : decode c_Ty_ofBinding 11 = .ok (.iload_n 2, 1) := by decide +kernel
theorem d_Ty_ofBinding_12 : decode c_Ty_ofBinding 12 = .ok (.iconst 2, 1) := by decide +kernel
theorem d_Ty_ofBinding_13 : decode c_Ty_ofBinding 13 = .ok (.iadd, 1) := by decide +kernel
theorem d_Ty_ofBinding_14 : decode c_Ty_ofBinding 14 = .ok (.iload_n 3, 1) := by decide +kernel
theorem d_Ty_ofBinding_15 : decode c_Ty_ofBinding 15 = .ok (.iconst 1, 1) := by decide +kernel
theorem d_Ty_ofBinding_16 : decode c_Ty_ofBinding 16 = .ok (.iadd, 1) := by decide +kernel
theorem d_Ty_ofBinding_17 : decode c_Ty_ofBinding 17 = .ok (.invokestatic 15, 3) := by decide +kernel
theorem d_Ty_ofBinding_20 : decode c_Ty_ofBinding 20 = .ok (.iconst 1, 1) := by decide +kernel
theorem d_Ty_ofBinding_21 : decode c_Ty_ofBinding 21 = .ok (.if_icmp .eq 5, 3) := by decide +kernel
theorem d_Ty_ofBinding_24 : decode c_Ty_ofBinding 24 = .ok (.iconst 0, 1) := by decide +kernel
theorem d_Ty_ofBinding_25 : decode c_Ty_ofBinding 25 = .ok (.ireturn, 1) := by decide +kernel
theorem d_Ty_ofBinding_26 : decode c_Ty_ofBinding 26 = .ok (.aload_n 0, 1) := by decide +kernel
theorem d_Ty_ofBinding_27 : decode c_Ty_ofBinding 27 = .ok (.aload_n 1, 1) := by decide +kernel
theorem d_Ty_ofBinding_28 : decode c_Ty_ofBinding 28 = .ok (.iload 4, 2) := by decide +kernel
theorem d_Ty_ofBinding_30 : decode c_Ty_ofBinding 30 = .ok (.iload_n 3, 1) := by decide +kernel
theorem d_Ty_ofBinding_31 : decode c_Ty_ofBinding 31 = .ok (.iconst 1, 1) := by decide +kernel
theorem d_Ty_ofBinding_32 : decode c_Ty_ofBinding 32 = .ok (.iadd, 1) := by decide +kernel
theorem d_Ty_ofBinding_33 : decode c_Ty_ofBinding 33 = .ok (.invokestatic 15, 3) := by decide +kernel
theorem d_Ty_ofBinding_36 : decode c_Ty_ofBinding 36 = .ok (.ireturn, 1) := by decide +kernel
theorem d_Ty_ofCall_0 : decode c_Ty_ofCall 0 = .ok (.aload_n 0, 1) := by decide +kernel
theorem d_Ty_ofCall_1 : decode c_Ty_ofCall 1 = .ok (.aload_n 1, 1) := by decide +kernel
theorem d_Ty_ofCall_2 : decode c_Ty_ofCall 2 = .ok (.iload_n 2, 1) := by decide +kernel
theorem d_Ty_ofCall_3 : decode c_Ty_ofCall 3 = .ok (.iconst 1, 1) := by decide +kernel
theorem d_Ty_ofCall_4 : decode c_Ty_ofCall 4 = .ok (.iadd, 1) := by decide +kernel
theorem d_Ty_ofCall_5 : decode c_Ty_ofCall 5 = .ok (.invokevirtual 25, 3) := by decide +kernel
theorem d_Ty_ofCall_8 : decode c_Ty_ofCall 8 = .ok (.invokestatic 53, 3) := by decide +kernel
theorem d_Ty_ofCall_11 : decode c_Ty_ofCall 11 = .ok (.astore 4, 2) := by decide +kernel
theorem d_Ty_ofCall_13 : decode c_Ty_ofCall 13 = .ok (.aload 4, 2) := by decide +kernel
theorem d_Ty_ofCall_15 : decode c_Ty_ofCall 15 = .ok (.ifnull 14, 3) := by decide +kernel
theorem d_Ty_ofCall_18 : decode c_Ty_ofCall 18 = .ok (.aload 4, 2) := by decide +kernel
theorem d_Ty_ofCall_20 : decode c_Ty_ofCall 20 = .ok (.getfield 57, 3) := by decide +kernel
theorem d_Ty_ofCall_23 : decode c_Ty_ofCall 23 = .ok (.invokevirtual 21, 3) := by decide +kernel
theorem d_Ty_ofCall_26 : decode c_Ty_ofCall 26 = .ok (.ifCond .ne 5, 3) := by decide +kernel
theorem d_Ty_ofCall_29 : decode c_Ty_ofCall 29 = .ok (.iconst 0, 1) := by decide +kernel
theorem d_Ty_ofCall_30 : decode c_Ty_ofCall 30 = .ok (.ireturn, 1) := by decide +kernel
theorem d_Ty_ofCall_31 : decode c_Ty_ofCall 31 = .ok (.aload_n 0, 1) := by decide +kernel
theorem d_Ty_ofCall_32 : decode c_Ty_ofCall 32 = .ok (.aload_n 1, 1) := by decide +kernel
theorem d_Ty_ofCall_33 : decode c_Ty_ofCall 33 = .ok (.iload_n 2, 1) := by decide +kernel
theorem d_Ty_ofCall_34 : decode c_Ty_ofCall 34 = .ok (.iconst 2, 1) := by decide +kernel
theorem d_Ty_ofCall_35 : decode c_Ty_ofCall 35 = .ok (.iadd, 1) := by decide +kernel
theorem d_Ty_ofCall_36 : decode c_Ty_ofCall 36 = .ok (.iload_n 3, 1) := by decide +kernel
theorem d_Ty_ofCall_37 : decode c_Ty_ofCall 37 = .ok (.iconst 1, 1) := by decide +kernel
theorem d_Ty_ofCall_38 : decode c_Ty_ofCall 38 = .ok (.iadd, 1) := by decide +kernel
theorem d_Ty_ofCall_39 : decode c_Ty_ofCall 39 = .ok (.invokestatic 15, 3) := by decide +kernel
theorem d_Ty_ofCall_42 : decode c_Ty_ofCall 42 = .ok (.iconst 1, 1) := by decide +kernel
theorem d_Ty_ofCall_43 : decode c_Ty_ofCall 43 = .ok (.if_icmp .ne 7, 3) := by decide +kernel
theorem d_Ty_ofCall_46 : decode c_Ty_ofCall 46 = .ok (.iconst 1, 1) := by decide +kernel
theorem d_Ty_ofCall_47 : decode c_Ty_ofCall 47 = .ok (.goto 4, 3) := by decide +kernel
theorem d_Ty_ofCall_50 : decode c_Ty_ofCall 50 = .ok (.iconst 0, 1) := by decide +kernel
theorem d_Ty_ofCall_51 : decode c_Ty_ofCall 51 = .ok (.ireturn, 1) := by decide +kernel
theorem d_B_definerOf_0 : decode c_B_definerOf 0 = .ok (.iload_n 1, 1) := by decide +kernel
theorem d_B_definerOf_1 : decode c_B_definerOf 1 = .ok (.invokestatic 111, 3) := by decide +kernel
theorem d_B_definerOf_4 : decode c_B_definerOf 4 = .ok (.ifCond .eq 12, 3) := by decide +kernel
theorem d_B_definerOf_7 : decode c_B_definerOf 7 = .ok (.aload_n 0, 1) := by decide +kernel
theorem d_B_definerOf_8 : decode c_B_definerOf 8 = .ok (.iload_n 1, 1) := by decide +kernel
theorem d_B_definerOf_9 : decode c_B_definerOf 9 = .ok (.bipush 97, 2) := by decide +kernel
theorem d_B_definerOf_11 : decode c_B_definerOf 11 = .ok (.isub, 1) := by decide +kernel
theorem d_B_definerOf_12 : decode c_B_definerOf 12 = .ok (.aaload, 1) := by decide +kernel
theorem d_B_definerOf_13 : decode c_B_definerOf 13 = .ok (.goto 4, 3) := by decide +kernel
theorem d_B_definerOf_16 : decode c_B_definerOf 16 = .ok (.aconst_null, 1) := by decide +kernel
theorem d_B_definerOf_17 : decode c_B_definerOf 17 = .ok (.areturn, 1) := by decide +kernel
theorem d_Ty_ofMatch_0 : decode c_Ty_ofMatch 0 = .ok (.aload_n 1, 1) := by decide +kernel
theorem d_Ty_ofMatch_1 : decode c_Ty_ofMatch 1 = .ok (.iload_n 2, 1) := by decide +kernel
theorem d_Ty_ofMatch_2 : decode c_Ty_ofMatch 2 = .ok (.iconst 1, 1) := by decide +kernel
theorem d_Ty_ofMatch_3 : decode c_Ty_ofMatch 3 = .ok (.iadd, 1) := by decide +kernel
theorem d_Ty_ofMatch_4 : decode c_Ty_ofMatch 4 = .ok (.invokevirtual 49, 3) := by decide +kernel
theorem d_Ty_ofMatch_7 : decode c_Ty_ofMatch 7 = .ok (.iconst 1, 1) := by decide +kernel
theorem d_Ty_ofMatch_8 : decode c_Ty_ofMatch 8 = .ok (.iadd, 1) := by decide +kernel
theorem d_Ty_ofMatch_9 : decode c_Ty_ofMatch 9 = .ok (.istore 4, 2) := by decide +kernel
theorem d_Ty_ofMatch_11 : decode c_Ty_ofMatch 11 = .ok (.aload_n 1, 1) := by decide +kernel
theorem d_Ty_ofMatch_12 : decode c_Ty_ofMatch 12 = .ok (.iload 4, 2) := by decide +kernel
theorem d_Ty_ofMatch_14 : decode c_Ty_ofMatch 14 = .ok (.invokevirtual 49, 3) := by decide +kernel
theorem d_Ty_ofMatch_17 : decode c_Ty_ofMatch 17 = .ok (.iconst 1, 1) := by decide +kernel
theorem d_Ty_ofMatch_18 : decode c_Ty_ofMatch 18 = .ok (.iadd, 1) := by decide +kernel
theorem d_Ty_ofMatch_19 : decode c_Ty_ofMatch 19 = .ok (.istore 5, 2) := by decide +kernel
theorem d_Ty_ofMatch_21 : decode c_Ty_ofMatch 21 = .ok (.aload_n 0, 1) := by decide +kernel
theorem d_Ty_ofMatch_22 : decode c_Ty_ofMatch 22 = .ok (.aload_n 1, 1) := by decide +kernel
theorem d_Ty_ofMatch_23 : decode c_Ty_ofMatch 23 = .ok (.iload_n 2, 1) := by decide +kernel
theorem d_Ty_ofMatch_24 : decode c_Ty_ofMatch 24 = .ok (.iconst 1, 1) := by decide +kernel
theorem d_Ty_ofMatch_25 : decode c_Ty_ofMatch 25 = .ok (.iadd, 1) := by decide +kernel
theorem d_Ty_ofMatch_26 : decode c_Ty_ofMatch 26 = .ok (.iload_n 3, 1) := by decide +kernel
theorem d_Ty_ofMatch_27 : decode c_Ty_ofMatch 27 = .ok (.iconst 1, 1) := by decide +kernel
theorem d_Ty_ofMatch_28 : decode c_Ty_ofMatch 28 = .ok (.iadd, 1) := by decide +kernel
theorem d_Ty_ofMatch_29 : decode c_Ty_ofMatch 29 = .ok (.invokestatic 15, 3) := by decide +kernel
theorem d_Ty_ofMatch_32 : decode c_Ty_ofMatch 32 = .ok (.iconst 1, 1) := by decide +kernel
theorem d_Ty_ofMatch_33 : decode c_Ty_ofMatch 33 = .ok (.if_icmp .ne 35, 3) := by decide +kernel
theorem d_Ty_ofMatch_36 : decode c_Ty_ofMatch 36 = .ok (.aload_n 0, 1) := by decide +kernel
theorem d_Ty_ofMatch_37 : decode c_Ty_ofMatch 37 = .ok (.aload_n 1, 1) := by decide +kernel
theorem d_Ty_ofMatch_38 : decode c_Ty_ofMatch 38 = .ok (.iload 4, 2) := by decide +kernel
theorem d_Ty_ofMatch_40 : decode c_Ty_ofMatch 40 = .ok (.iload_n 3, 1) := by decide +kernel
theorem d_Ty_ofMatch_41 : decode c_Ty_ofMatch 41 = .ok (.iconst 1, 1) := by decide +kernel
theorem d_Ty_ofMatch_42 : decode c_Ty_ofMatch 42 = .ok (.iadd, 1) := by decide +kernel
theorem d_Ty_ofMatch_43 : decode c_Ty_ofMatch 43 = .ok (.invokestatic 15, 3) := by decide +kernel
theorem d_Ty_ofMatch_46 : decode c_Ty_ofMatch 46 = .ok (.iconst 1, 1) := by decide +kernel
theorem d_Ty_ofMatch_47 : decode c_Ty_ofMatch 47 = .ok (.if_icmp .ne 21, 3) := by decide +kernel
theorem d_Ty_ofMatch_50 : decode c_Ty_ofMatch 50 = .ok (.aload_n 0, 1) := by decide +kernel
theorem d_Ty_ofMatch_51 : decode c_Ty_ofMatch 51 = .ok (.aload_n 1, 1) := by decide +kernel
theorem d_Ty_ofMatch_52 : decode c_Ty_ofMatch 52 = .ok (.iload 5, 2) := by decide +kernel
theorem d_Ty_ofMatch_54 : decode c_Ty_ofMatch 54 = .ok (.iload_n 3, 1) := by decide +kernel
theorem d_Ty_ofMatch_55 : decode c_Ty_ofMatch 55 = .ok (.iconst 1, 1) := by decide +kernel
theorem d_Ty_ofMatch_56 : decode c_Ty_ofMatch 56 = .ok (.iadd, 1) := by decide +kernel
theorem d_Ty_ofMatch_57 : decode c_Ty_ofMatch 57 = .ok (.invokestatic 15, 3) := by decide +kernel
theorem d_Ty_ofMatch_60 : decode c_Ty_ofMatch 60 = .ok (.iconst 1, 1) := by decide +kernel
theorem d_Ty_ofMatch_61 : decode c_Ty_ofMatch 61 = .ok (.if_icmp .ne 7, 3) := by decide +kernel
theorem d_Ty_ofMatch_64 : decode c_Ty_ofMatch 64 = .ok (.iconst 1, 1) := by decide +kernel
theorem d_Ty_ofMatch_65 : decode c_Ty_ofMatch 65 = .ok (.goto 4, 3) := by decide +kernel
theorem d_Ty_ofMatch_68 : decode c_Ty_ofMatch 68 = .ok (.iconst 0, 1) := by decide +kernel
theorem d_Ty_ofMatch_69 : decode c_Ty_ofMatch 69 = .ok (.ireturn, 1) := by decide +kernel
theorem d_Ty_ofLeaf_0 : decode c_Ty_ofLeaf 0 = .ok (.iload_n 1, 1) := by decide +kernel
theorem d_Ty_ofLeaf_1 : decode c_Ty_ofLeaf 1 = .ok (.invokestatic 63, 3) := by decide +kernel
theorem d_Ty_ofLeaf_4 : decode c_Ty_ofLeaf 4 = .ok (.ifCond .ne 5, 3) := by decide +kernel
theorem d_Ty_ofLeaf_7 : decode c_Ty_ofLeaf 7 = .ok (.iconst 1, 1) := by decide +kernel
theorem d_Ty_ofLeaf_8 : decode c_Ty_ofLeaf 8 = .ok (.ireturn, 1) := by decide +kernel
theorem d_Ty_ofLeaf_9 : decode c_Ty_ofLeaf 9 = .ok (.aload_n 0, 1) := by decide +kernel
theorem d_Ty_ofLeaf_10 : decode c_Ty_ofLeaf 10 = .ok (.iload_n 1, 1) := by decide +kernel
theorem d_Ty_ofLeaf_11 : decode c_Ty_ofLeaf 11 = .ok (.invokestatic 53, 3) := by decide +kernel
theorem d_Ty_ofLeaf_14 : decode c_Ty_ofLeaf 14 = .ok (.astore_n 2, 1) := by decide +kernel
theorem d_Ty_ofLeaf_15 : decode c_Ty_ofLeaf 15 = .ok (.aload_n 2, 1) := by decide +kernel
theorem d_Ty_ofLeaf_16 : decode c_Ty_ofLeaf 16 = .ok (.ifnull 13, 3) := by decide +kernel
theorem d_Ty_ofLeaf_19 : decode c_Ty_ofLeaf 19 = .ok (.aload_n 2, 1) := by decide +kernel
theorem d_Ty_ofLeaf_20 : decode c_Ty_ofLeaf 20 = .ok (.getfield 57, 3) := by decide +kernel
theorem d_Ty_ofLeaf_23 : decode c_Ty_ofLeaf 23 = .ok (.invokevirtual 21, 3) := by decide +kernel
theorem d_Ty_ofLeaf_26 : decode c_Ty_ofLeaf 26 = .ok (.ifCond .eq 7, 3) := by decide +kernel
theorem d_Ty_ofLeaf_29 : decode c_Ty_ofLeaf 29 = .ok (.iconst 0, 1) := by decide +kernel
theorem d_Ty_ofLeaf_30 : decode c_Ty_ofLeaf 30 = .ok (.goto 7, 3) := by decide +kernel
theorem d_Ty_ofLeaf_33 : decode c_Ty_ofLeaf 33 = .ok (.aload_n 2, 1) := by decide +kernel
theorem d_Ty_ofLeaf_34 : decode c_Ty_ofLeaf 34 = .ok (.getfield 67, 3) := by decide +kernel
theorem d_Ty_ofLeaf_37 : decode c_Ty_ofLeaf 37 = .ok (.ireturn, 1) := by decide +kernel
theorem d_Ev_run_0 : decode c_Ev_run 0 = .ok (.aload_n 0, 1) := by decide +kernel
theorem d_Ev_run_1 : decode c_Ev_run 1 = .ok (.aload_n 3, 1) := by decide +kernel
theorem d_Ev_run_2 : decode c_Ev_run 2 = .ok (.putfield 20, 3) := by decide +kernel
theorem d_Ev_run_5 : decode c_Ev_run 5 = .ok (.aload_n 0, 1) := by decide +kernel
theorem d_Ev_run_6 : decode c_Ev_run 6 = .ok (.iconst 0, 1) := by decide +kernel
theorem d_Ev_run_7 : decode c_Ev_run 7 = .ok (.putfield 24, 3) := by decide +kernel
theorem d_Ev_run_10 : decode c_Ev_run 10 = .ok (.aload_n 0, 1) := by decide +kernel
theorem d_Ev_run_11 : decode c_Ev_run 11 = .ok (.iconst 0, 1) := by decide +kernel
theorem d_Ev_run_12 : decode c_Ev_run 12 = .ok (.putfield 31, 3) := by decide +kernel
theorem d_Ev_run_15 : decode c_Ev_run 15 = .ok (.aload_n 0, 1) := by decide +kernel
theorem d_Ev_run_16 : decode c_Ev_run 16 = .ok (.getfield 11, 3) := by decide +kernel
theorem d_Ev_run_19 : decode c_Ev_run 19 = .ok (.iconst 0, 1) := by decide +kernel
theorem d_Ev_run_20 : decode c_Ev_run 20 = .ok (.aaload, 1) := by decide +kernel
theorem d_Ev_run_21 : decode c_Ev_run 21 = .ok (.aload_n 1, 1) := by decide +kernel
theorem d_Ev_run_22 : decode c_Ev_run 22 = .ok (.getfield 34, 3) := by decide +kernel
theorem d_Ev_run_25 : decode c_Ev_run 25 = .ok (.putfield 40, 3) := by decide +kernel
theorem d_Ev_run_28 : decode c_Ev_run 28 = .ok (.aload_n 1, 1) := by decide +kernel
theorem d_Ev_run_29 : decode c_Ev_run 29 = .ok (.aload_n 0, 1) := by decide +kernel
theorem d_Ev_run_30 : decode c_Ev_run 30 = .ok (.aload_n 0, 1) := by decide +kernel
theorem d_Ev_run_31 : decode c_Ev_run 31 = .ok (.getfield 11, 3) := by decide +kernel
theorem d_Ev_run_34 : decode c_Ev_run 34 = .ok (.iconst 0, 1) := by decide +kernel
theorem d_Ev_run_35 : decode c_Ev_run 35 = .ok (.aaload, 1) := by decide +kernel
theorem d_Ev_run_36 : decode c_Ev_run 36 = .ok (.aload_n 1, 1) := by decide +kernel
theorem d_Ev_run_37 : decode c_Ev_run 37 = .ok (.getfield 34, 3) := by decide +kernel
theorem d_Ev_run_40 : decode c_Ev_run 40 = .ok (.getfield 41, 3) := by decide +kernel
theorem d_Ev_run_43 : decode c_Ev_run 43 = .ok (.iconst 0, 1) := by decide +kernel
theorem d_Ev_run_44 : decode c_Ev_run 44 = .ok (.invokevirtual 46, 3) := by decide +kernel
theorem d_Ev_run_47 : decode c_Ev_run 47 = .ok (.putfield 50, 3) := by decide +kernel
theorem d_Ev_run_50 : decode c_Ev_run 50 = .ok (.aload_n 1, 1) := by decide +kernel
theorem d_Ev_run_51 : decode c_Ev_run 51 = .ok (.iload_n 2, 1) := by decide +kernel
theorem d_Ev_run_52 : decode c_Ev_run 52 = .ok (.putfield 53, 3) := by decide +kernel
theorem d_Ev_run_55 : decode c_Ev_run 55 = .ok (.aload_n 1, 1) := by decide +kernel
theorem d_Ev_run_56 : decode c_Ev_run 56 = .ok (.aload_n 0, 1) := by decide +kernel
theorem d_Ev_run_57 : decode c_Ev_run 57 = .ok (.invokevirtual 56, 3) := by decide +kernel
theorem d_Ev_run_60 : decode c_Ev_run 60 = .ok (.ifCond .eq 10, 3) := by decide +kernel
theorem d_Ev_run_63 : decode c_Ev_run 63 = .ok (.aload_n 0, 1) := by decide +kernel
theorem d_Ev_run_64 : decode c_Ev_run 64 = .ok (.getfield 31, 3) := by decide +kernel
theorem d_Ev_run_67 : decode c_Ev_run 67 = .ok (.goto 5, 3) := by decide +kernel
theorem d_Ev_run_70 : decode c_Ev_run 70 = .ok (.bipush 14, 2) := by decide +kernel
theorem d_Ev_run_72 : decode c_Ev_run 72 = .ok (.putfield 60, 3) := by decide +kernel
theorem d_Ev_run_75 : decode c_Ev_run 75 = .ok (.aload_n 1, 1) := by decide +kernel
theorem d_Ev_run_76 : decode c_Ev_run 76 = .ok (.dup, 1) := by decide +kernel
theorem d_Ev_run_77 : decode c_Ev_run 77 = .ok (.getfield 63, 3) := by decide +kernel
theorem d_Ev_run_80 : decode c_Ev_run 80 = .ok (.iconst 1, 1) := by decide +kernel
theorem d_Ev_run_81 : decode c_Ev_run 81 = .ok (.iadd, 1) := by decide +kernel
theorem d_Ev_run_82 : decode c_Ev_run 82 = .ok (.putfield 63, 3) := by decide +kernel
theorem d_Ev_run_85 : decode c_Ev_run 85 = .ok (.aload_n 0, 1) := by decide +kernel
theorem d_Ev_run_86 : decode c_Ev_run 86 = .ok (.dup, 1) := by decide +kernel
theorem d_Ev_run_87 : decode c_Ev_run 87 = .ok (.getfield 28, 3) := by decide +kernel
theorem d_Ev_run_90 : decode c_Ev_run 90 = .ok (.aload_n 0, 1) := by decide +kernel
theorem d_Ev_run_91 : decode c_Ev_run 91 = .ok (.getfield 24, 3) := by decide +kernel
theorem d_Ev_run_94 : decode c_Ev_run 94 = .ok (.iadd, 1) := by decide +kernel
theorem d_Ev_run_95 : decode c_Ev_run 95 = .ok (.putfield 28, 3) := by decide +kernel
theorem d_Ev_run_98 : decode c_Ev_run 98 = .ok (.return_, 1) := by decide +kernel
theorem d_Ev_ofExpression_0 : decode c_Ev_ofExpression 0 = .ok (.iload_n 3, 1) := by decide +kernel
theorem d_Ev_ofExpression_1 : decode c_Ev_ofExpression 1 = .ok (.iconst 5, 1) := by decide +kernel
theorem d_Ev_ofExpression_2 : decode c_Ev_ofExpression 2 = .ok (.if_icmp .le 10, 3) := by decide +kernel
theorem d_Ev_ofExpression_5 : decode c_Ev_ofExpression 5 = .ok (.aload_n 0, 1) := by decide +kernel
theorem d_Ev_ofExpression_6 : decode c_Ev_ofExpression 6 = .ok (.bipush 9, 2) := by decide +kernel
theorem d_Ev_ofExpression_8 : decode c_Ev_ofExpression 8 = .ok (.invokevirtual 66, 3) := by decide +kernel
theorem d_Ev_ofExpression_11 : decode c_Ev_ofExpression 11 = .ok (.ireturn, 1) := by decide +kernel
theorem d_Ev_ofExpression_12 : decode c_Ev_ofExpression 12 = .ok (.aload_n 0, 1) := by decide +kernel
theorem d_Ev_ofExpression_13 : decode c_Ev_ofExpression 13 = .ok (.getfield 24, 3) := by decide +kernel
theorem d_Ev_ofExpression_16 : decode c_Ev_ofExpression 16 = .ok (.sipush 2000, 3) := by decide +kernel
theorem d_Ev_ofExpression_19 : decode c_Ev_ofExpression 19 = .ok (.if_icmp .lt 10, 3) := by decide +kernel
theorem d_Ev_ofExpression_22 : decode c_Ev_ofExpression 22 = .ok (.aload_n 0, 1) := by decide +kernel
theorem d_Ev_ofExpression_23 : decode c_Ev_ofExpression 23 = .ok (.bipush 10, 2) := by decide +kernel
theorem d_Ev_ofExpression_25 : decode c_Ev_ofExpression 25 = .ok (.invokevirtual 66, 3) := by decide +kernel
theorem d_Ev_ofExpression_28 : decode c_Ev_ofExpression 28 = .ok (.ireturn, 1) := by decide +kernel
theorem d_Ev_ofExpression_29 : decode c_Ev_ofExpression 29 = .ok (.aload_n 0, 1) := by decide +kernel
theorem d_Ev_ofExpression_30 : decode c_Ev_ofExpression 30 = .ok (.dup, 1) := by decide +kernel
theorem d_Ev_ofExpression_31 : decode c_Ev_ofExpression 31 = .ok (.getfield 24, 3) := by decide +kernel
theorem d_Ev_ofExpression_34 : decode c_Ev_ofExpression 34 = .ok (.iconst 1, 1) := by decide +kernel
theorem d_Ev_ofExpression_35 : decode c_Ev_ofExpression 35 = .ok (.iadd, 1) := by decide +kernel
theorem d_Ev_ofExpression_36 : decode c_Ev_ofExpression 36 = .ok (.putfield 24, 3) := by decide +kernel
theorem d_Ev_ofExpression_39 : decode c_Ev_ofExpression 39 = .ok (.aload_n 1, 1) := by decide +kernel
theorem d_Ev_ofExpression_40 : decode c_Ev_ofExpression 40 = .ok (.getfield 40, 3) := by decide +kernel
theorem d_Ev_ofExpression_43 : decode c_Ev_ofExpression 43 = .ok (.iload_n 2, 1) := by decide +kernel
theorem d_Ev_ofExpression_44 : decode c_Ev_ofExpression 44 = .ok (.invokevirtual 70, 3) := by decide +kernel
theorem d_Ev_ofExpression_47 : decode c_Ev_ofExpression 47 = .ok (.lookupswitch 167 #[(33, 143), (35, 151), (36, 135), (38, 105), (42, 159), (43, 159), (45, 159), (47, 159), (60, 159), (61, 159), (63, 127), (126, 113)], 105) := by decide +kernel
theorem d_Ev_ofExpression_152 : decode c_Ev_ofExpression 152 = .ok (.aload_n 0, 1) := by decide +kernel
theorem d_Ev_ofExpression_153 : decode c_Ev_ofExpression 153 = .ok (.aload_n 1, 1) := by decide +kernel
theorem d_Ev_ofExpression_154 : decode c_Ev_ofExpression 154 = .ok (.iload_n 2, 1) := by decide +kernel
theorem d_Ev_ofExpression_155 : decode c_Ev_ofExpression 155 = .ok (.iload_n 3, 1) := by decide +kernel
theorem d_Ev_ofExpression_156 : decode c_Ev_ofExpression 156 = .ok (.invokevirtual 74, 3) := by decide +kernel
theorem d_Ev_ofExpression_159 : decode c_Ev_ofExpression 159 = .ok (.ireturn, 1) := by decide +kernel
theorem d_Ev_ofExpression_160 : decode c_Ev_ofExpression 160 = .ok (.iconst 1, 1) := by decide +kernel
theorem d_Ev_ofExpression_161 : decode c_Ev_ofExpression 161 = .ok (.aload_n 0, 1) := by decide +kernel
theorem d_Ev_ofExpression_162 : decode c_Ev_ofExpression 162 = .ok (.aload_n 1, 1) := by decide +kernel
theorem d_Ev_ofExpression_163 : decode c_Ev_ofExpression 163 = .ok (.iload_n 2, 1) := by decide +kernel
theorem d_Ev_ofExpression_164 : decode c_Ev_ofExpression 164 = .ok (.iconst 1, 1) := by decide +kernel
theorem d_Ev_ofExpression_165 : decode c_Ev_ofExpression 165 = .ok (.iadd, 1) := by decide +kernel
theorem d_Ev_ofExpression_166 : decode c_Ev_ofExpression 166 = .ok (.iload_n 3, 1) := by decide +kernel
theorem d_Ev_ofExpression_167 : decode c_Ev_ofExpression 167 = .ok (.iconst 1, 1) := by decide +kernel
theorem d_Ev_ofExpression_168 : decode c_Ev_ofExpression 168 = .ok (.iadd, 1) := by decide +kernel
theorem d_Ev_ofExpression_169 : decode c_Ev_ofExpression 169 = .ok (.invokevirtual 46, 3) := by decide +kernel
theorem d_Ev_ofExpression_172 : decode c_Ev_ofExpression 172 = .ok (.isub, 1) := by decide +kernel
theorem d_Ev_ofExpression_173 : decode c_Ev_ofExpression 173 = .ok (.ireturn, 1) := by decide +kernel
theorem d_Ev_ofExpression_174 : decode c_Ev_ofExpression 174 = .ok (.aload_n 0, 1) := by decide +kernel
theorem d_Ev_ofExpression_175 : decode c_Ev_ofExpression 175 = .ok (.aload_n 1, 1) := by decide +kernel
theorem d_Ev_ofExpression_176 : decode c_Ev_ofExpression 176 = .ok (.iload_n 2, 1) := by decide +kernel
theorem d_Ev_ofExpression_177 : decode c_Ev_ofExpression 177 = .ok (.iload_n 3, 1) := by decide +kernel
theorem d_Ev_ofExpression_178 : decode c_Ev_ofExpression 178 = .ok (.invokevirtual 77, 3) := by decide +kernel
theorem d_Ev_ofExpression_181 : decode c_Ev_ofExpression 181 = .ok (.ireturn, 1) := by decide +kernel
theorem d_Ev_ofExpression_182 : decode c_Ev_ofExpression 182 = .ok (.aload_n 0, 1) := by decide +kernel
theorem d_Ev_ofExpression_183 : decode c_Ev_ofExpression 183 = .ok (.aload_n 1, 1) := by decide +kernel
theorem d_Ev_ofExpression_184 : decode c_Ev_ofExpression 184 = .ok (.iload_n 2, 1) := by decide +kernel
theorem d_Ev_ofExpression_185 : decode c_Ev_ofExpression 185 = .ok (.iload_n 3, 1) := by decide +kernel
theorem d_Ev_ofExpression_186 : decode c_Ev_ofExpression 186 = .ok (.invokevirtual 80, 3) := by decide +kernel
theorem d_Ev_ofExpression_189 : decode c_Ev_ofExpression 189 = .ok (.ireturn, 1) := by decide +kernel
theorem d_Ev_ofExpression_190 : decode c_Ev_ofExpression 190 = .ok (.aload_n 0, 1) := by decide +kernel
theorem d_Ev_ofExpression_191 : decode c_Ev_ofExpression 191 = .ok (.aload_n 1, 1) := by decide +kernel
theorem d_Ev_ofExpression_192 : decode c_Ev_ofExpression 192 = .ok (.iload_n 2, 1) := by decide +kernel
theorem d_Ev_ofExpression_193 : decode c_Ev_ofExpression 193 = .ok (.iload_n 3, 1) := by decide +kernel
theorem d_Ev_ofExpression_194 : decode c_Ev_ofExpression 194 = .ok (.invokevirtual 83, 3) := by decide +kernel
theorem d_Ev_ofExpression_197 : decode c_Ev_ofExpression 197 = .ok (.ireturn, 1) := by decide +kernel
theorem d_Ev_ofExpression_198 : decode c_Ev_ofExpression 198 = .ok (.aload_n 0, 1) := by decide +kernel
theorem d_Ev_ofExpression_199 : decode c_Ev_ofExpression 199 = .ok (.aload_n 1, 1) := by decide +kernel
theorem d_Ev_ofExpression_200 : decode c_Ev_ofExpression 200 = .ok (.iload_n 2, 1) := by decide +kernel
theorem d_Ev_ofExpression_201 : decode c_Ev_ofExpression 201 = .ok (.iload_n 3, 1) := by decide +kernel
theorem d_Ev_ofExpression_202 : decode c_Ev_ofExpression 202 = .ok (.invokevirtual 86, 3) := by decide +kernel
theorem d_Ev_ofExpression_205 : decode c_Ev_ofExpression 205 = .ok (.ireturn, 1) := by decide +kernel
theorem d_Ev_ofExpression_206 : decode c_Ev_ofExpression 206 = .ok (.aload_n 0, 1) := by decide +kernel
theorem d_Ev_ofExpression_207 : decode c_Ev_ofExpression 207 = .ok (.aload_n 1, 1) := by decide +kernel
theorem d_Ev_ofExpression_208 : decode c_Ev_ofExpression 208 = .ok (.iload_n 2, 1) := by decide +kernel
theorem d_Ev_ofExpression_209 : decode c_Ev_ofExpression 209 = .ok (.iload_n 3, 1) := by decide +kernel
theorem d_Ev_ofExpression_210 : decode c_Ev_ofExpression 210 = .ok (.invokevirtual 89, 3) := by decide +kernel
theorem d_Ev_ofExpression_213 : decode c_Ev_ofExpression 213 = .ok (.ireturn, 1) := by decide +kernel
theorem d_Ev_ofExpression_214 : decode c_Ev_ofExpression 214 = .ok (.aload_n 0, 1) := by decide +kernel
theorem d_Ev_ofExpression_215 : decode c_Ev_ofExpression 215 = .ok (.aload_n 1, 1) := by decide +kernel
theorem d_Ev_ofExpression_216 : decode c_Ev_ofExpression 216 = .ok (.iload_n 2, 1) := by decide +kernel
theorem d_Ev_ofExpression_217 : decode c_Ev_ofExpression 217 = .ok (.invokevirtual 92, 3) := by decide +kernel
theorem d_Ev_ofExpression_220 : decode c_Ev_ofExpression 220 = .ok (.ireturn, 1) := by decide +kernel
theorem d_Ev_fail_0 : decode c_Ev_fail 0 = .ok (.aload_n 0, 1) := by decide +kernel
theorem d_Ev_fail_1 : decode c_Ev_fail 1 = .ok (.iload_n 1, 1) := by decide +kernel
theorem d_Ev_fail_2 : decode c_Ev_fail 2 = .ok (.putfield 31, 3) := by decide +kernel
theorem d_Ev_fail_5 : decode c_Ev_fail 5 = .ok (.iconst 0, 1) := by decide +kernel
theorem d_Ev_fail_6 : decode c_Ev_fail 6 = .ok (.ireturn, 1) := by decide +kernel
theorem d_Ev_ofBoth_0 : decode c_Ev_ofBoth 0 = .ok (.aload_n 0, 1) := by decide +kernel
theorem d_Ev_ofBoth_1 : decode c_Ev_ofBoth 1 = .ok (.aload_n 1, 1) := by decide +kernel
theorem d_Ev_ofBoth_2 : decode c_Ev_ofBoth 2 = .ok (.iload_n 2, 1) := by decide +kernel
theorem d_Ev_ofBoth_3 : decode c_Ev_ofBoth 3 = .ok (.iconst 1, 1) := by decide +kernel
theorem d_Ev_ofBoth_4 : decode c_Ev_ofBoth 4 = .ok (.iadd, 1) := by decide +kernel
theorem d_Ev_ofBoth_5 : decode c_Ev_ofBoth 5 = .ok (.iload_n 3, 1) := by decide +kernel
theorem d_Ev_ofBoth_6 : decode c_Ev_ofBoth 6 = .ok (.iconst 1, 1) := by decide +kernel
theorem d_Ev_ofBoth_7 : decode c_Ev_ofBoth 7 = .ok (.iadd, 1) := by decide +kernel
theorem d_Ev_ofBoth_8 : decode c_Ev_ofBoth 8 = .ok (.invokevirtual 46, 3) := by decide +kernel
theorem d_Ev_ofBoth_11 : decode c_Ev_ofBoth 11 = .ok (.istore 4, 2) := by decide +kernel
theorem d_Ev_ofBoth_13 : decode c_Ev_ofBoth 13 = .ok (.aload_n 0, 1) := by decide +kernel
theorem d_Ev_ofBoth_14 : decode c_Ev_ofBoth 14 = .ok (.invokevirtual 56, 3) := by decide +kernel
theorem d_Ev_ofBoth_17 : decode c_Ev_ofBoth 17 = .ok (.ifCond .ne 8, 3) := by decide +kernel
theorem d_Ev_ofBoth_20 : decode c_Ev_ofBoth 20 = .ok (.iload 4, 2) := by decide +kernel
theorem d_Ev_ofBoth_22 : decode c_Ev_ofBoth 22 = .ok (.ifCond .ne 5, 3) := by decide +kernel
theorem d_Ev_ofBoth_25 : decode c_Ev_ofBoth 25 = .ok (.iconst 0, 1) := by decide +kernel
theorem d_Ev_ofBoth_26 : decode c_Ev_ofBoth 26 = .ok (.ireturn, 1) := by decide +kernel
theorem d_Ev_ofBoth_27 : decode c_Ev_ofBoth 27 = .ok (.aload_n 0, 1) := by decide +kernel
theorem d_Ev_ofBoth_28 : decode c_Ev_ofBoth 28 = .ok (.aload_n 1, 1) := by decide +kernel
theorem d_Ev_ofBoth_29 : decode c_Ev_ofBoth 29 = .ok (.aload_n 1, 1) := by decide +kernel
theorem d_Ev_ofBoth_30 : decode c_Ev_ofBoth 30 = .ok (.getfield 40, 3) := by decide +kernel
theorem d_Ev_ofBoth_33 : decode c_Ev_ofBoth 33 = .ok (.iload_n 2, 1) := by decide +kernel
theorem d_Ev_ofBoth_34 : decode c_Ev_ofBoth 34 = .ok (.iconst 1, 1) := by decide +kernel
theorem d_Ev_ofBoth_35 : decode c_Ev_ofBoth 35 = .ok (.iadd, 1) := by decide +kernel
theorem d_Ev_ofBoth_36 : decode c_Ev_ofBoth 36 = .ok (.invokevirtual 111, 3) := by decide +kernel
theorem d_Ev_ofBoth_39 : decode c_Ev_ofBoth 39 = .ok (.iload_n 3, 1) := by decide +kernel
theorem d_Ev_ofBoth_40 : decode c_Ev_ofBoth 40 = .ok (.iconst 1, 1) := by decide +kernel
theorem d_Ev_ofBoth_41 : decode c_Ev_ofBoth 41 = .ok (.iadd, 1) := by decide +kernel
theorem d_Ev_ofBoth_42 : decode c_Ev_ofBoth 42 = .ok (.invokevirtual 46, 3) := by decide +kernel
theorem d_Ev_ofBoth_45 : decode c_Ev_ofBoth 45 = .ok (.ireturn, 1) := by decide +kernel
theorem d_Ev_hasFailed_0 : decode c_Ev_hasFailed 0 = .ok (.aload_n 0, 1) := by decide +kernel
theorem d_Ev_hasFailed_1 : decode c_Ev_hasFailed 1 = .ok (.getfield 31, 3) := by decide +kernel
theorem d_Ev_hasFailed_4 : decode c_Ev_hasFailed 4 = .ok (.ifCond .eq 7, 3) := by decide +kernel
theorem d_Ev_hasFailed_7 : decode c_Ev_hasFailed 7 = .ok (.iconst 1, 1) := by decide +kernel
theorem d_Ev_hasFailed_8 : decode c_Ev_hasFailed 8 = .ok (.goto 4, 3) := by decide +kernel
theorem d_Ev_hasFailed_11 : decode c_Ev_hasFailed 11 = .ok (.iconst 0, 1) := by decide +kernel
theorem d_Ev_hasFailed_12 : decode c_Ev_hasFailed 12 = .ok (.ireturn, 1) := by decide +kernel
theorem d_Ev_ofChoice_0 : decode c_Ev_ofChoice 0 = .ok (.aload_n 0, 1) := by decide +kernel
theorem d_Ev_ofChoice_1 : decode c_Ev_ofChoice 1 = .ok (.aload_n 1, 1) := by decide +kernel
theorem d_Ev_ofChoice_2 : decode c_Ev_ofChoice 2 = .ok (.iload_n 2, 1) := by decide +kernel
theorem d_Ev_ofChoice_3 : decode c_Ev_ofChoice 3 = .ok (.iconst 1, 1) := by decide +kernel
theorem d_Ev_ofChoice_4 : decode c_Ev_ofChoice 4 = .ok (.iadd, 1) := by decide +kernel
theorem d_Ev_ofChoice_5 : decode c_Ev_ofChoice 5 = .ok (.iload_n 3, 1) := by decide +kernel
theorem d_Ev_ofChoice_6 : decode c_Ev_ofChoice 6 = .ok (.iconst 1, 1) := by decide +kernel
theorem d_Ev_ofChoice_7 : decode c_Ev_ofChoice 7 = .ok (.iadd, 1) := by decide +kernel
theorem d_Ev_ofChoice_8 : decode c_Ev_ofChoice 8 = .ok (.invokevirtual 46, 3) := by decide +kernel
theorem d_Ev_ofChoice_11 : decode c_Ev_ofChoice 11 = .ok (.istore 4, 2) := by decide +kernel
theorem d_Ev_ofChoice_13 : decode c_Ev_ofChoice 13 = .ok (.aload_n 0, 1) := by decide +kernel
theorem d_Ev_ofChoice_14 : decode c_Ev_ofChoice 14 = .ok (.invokevirtual 56, 3) := by decide +kernel
theorem d_Ev_ofChoice_17 : decode c_Ev_ofChoice 17 = .ok (.ifCond .eq 5, 3) := by decide +kernel
theorem d_Ev_ofChoice_20 : decode c_Ev_ofChoice 20 = .ok (.iconst 0, 1) := by decide +kernel
theorem d_Ev_ofChoice_21 : decode c_Ev_ofChoice 21 = .ok (.ireturn, 1) := by decide +kernel
theorem d_Ev_ofChoice_22 : decode c_Ev_ofChoice 22 = .ok (.aload_n 1, 1) := by decide +kernel
theorem d_Ev_ofChoice_23 : decode c_Ev_ofChoice 23 = .ok (.getfield 40, 3) := by decide +kernel
theorem d_Ev_ofChoice_26 : decode c_Ev_ofChoice 26 = .ok (.iload_n 2, 1) := by decide +kernel
theorem d_Ev_ofChoice_27 : decode c_Ev_ofChoice 27 = .ok (.iconst 1, 1) := by decide +kernel
theorem d_Ev_ofChoice_28 : decode c_Ev_ofChoice 28 = .ok (.iadd, 1) := by decide +kernel
theorem d_Ev_ofChoice_29 : decode c_Ev_ofChoice 29 = .ok (.invokevirtual 111, 3) := by decide +kernel
theorem d_Ev_ofChoice_32 : decode c_Ev_ofChoice 32 = .ok (.istore 5, 2) := by decide +kernel
theorem d_Ev_ofChoice_34 : decode c_Ev_ofChoice 34 = .ok (.aload_n 0, 1) := by decide +kernel
theorem d_Ev_ofChoice_35 : decode c_Ev_ofChoice 35 = .ok (.aload_n 1, 1) := by decide +kernel
theorem d_Ev_ofChoice_36 : decode c_Ev_ofChoice 36 = .ok (.iload 4, 2) := by decide +kernel
theorem d_Ev_ofChoice_38 : decode c_Ev_ofChoice 38 = .ok (.iconst 1, 1) := by decide +kernel
theorem d_Ev_ofChoice_39 : decode c_Ev_ofChoice 39 = .ok (.if_icmp .ne 8, 3) := by decide +kernel
theorem d_Ev_ofChoice_42 : decode c_Ev_ofChoice 42 = .ok (.iload 5, 2) := by decide +kernel
theorem d_Ev_ofChoice_44 : decode c_Ev_ofChoice 44 = .ok (.goto 12, 3) := by decide +kernel
theorem d_Ev_ofChoice_47 : decode c_Ev_ofChoice 47 = .ok (.aload_n 1, 1) := by decide +kernel
theorem d_Ev_ofChoice_48 : decode c_Ev_ofChoice 48 = .ok (.getfield 40, 3) := by decide +kernel
theorem d_Ev_ofChoice_51 : decode c_Ev_ofChoice 51 = .ok (.iload 5, 2) := by decide +kernel
theorem d_Ev_ofChoice_53 : decode c_Ev_ofChoice 53 = .ok (.invokevirtual 111, 3) := by decide +kernel
theorem d_Ev_ofChoice_56 : decode c_Ev_ofChoice 56 = .ok (.iload_n 3, 1) := by decide +kernel
theorem d_Ev_ofChoice_57 : decode c_Ev_ofChoice 57 = .ok (.iconst 1, 1) := by decide +kernel
theorem d_Ev_ofChoice_58 : decode c_Ev_ofChoice 58 = .ok (.iadd, 1) := by decide +kernel
theorem d_Ev_ofChoice_59 : decode c_Ev_ofChoice 59 = .ok (.invokevirtual 46, 3) := by decide +kernel
theorem d_Ev_ofChoice_62 : decode c_Ev_ofChoice 62 = .ok (.ireturn, 1) := by decide +kernel
theorem d_Ev_ofBinding_0 : decode c_Ev_ofBinding 0 = .ok (.aload_n 0, 1) := by decide +kernel
theorem d_Ev_ofBinding_1 : decode c_Ev_ofBinding 1 = .ok (.aload_n 1, 1) := by decide +kernel
theorem d_Ev_ofBinding_2 : decode c_Ev_ofBinding 2 = .ok (.iload_n 2, 1) := by decide +kernel
theorem d_Ev_ofBinding_3 : decode c_Ev_ofBinding 3 = .ok (.iconst 2, 1) := by decide +kernel
theorem d_Ev_ofBinding_4 : decode c_Ev_ofBinding 4 = .ok (.iadd, 1) := by decide +kernel
theorem d_Ev_ofBinding_5 : decode c_Ev_ofBinding 5 = .ok (.iload_n 3, 1) := by decide +kernel
theorem d_Ev_ofBinding_6 : decode c_Ev_ofBinding 6 = .ok (.iconst 1, 1) := by decide +kernel
theorem d_Ev_ofBinding_7 : decode c_Ev_ofBinding 7 = .ok (.iadd, 1) := by decide +kernel
theorem d_Ev_ofBinding_8 : decode c_Ev_ofBinding 8 = .ok (.invokevirtual 46, 3) := by decide +kernel
theorem d_Ev_ofBinding_11 : decode c_Ev_ofBinding 11 = .ok (.istore 4, 2) := by decide +kernel
theorem d_Ev_ofBinding_13 : decode c_Ev_ofBinding 13 = .ok (.aload_n 0, 1) := by decide +kernel
theorem d_Ev_ofBinding_14 : decode c_Ev_ofBinding 14 = .ok (.invokevirtual 56, 3) := by decide +kernel
theorem d_Ev_ofBinding_17 : decode c_Ev_ofBinding 17 = .ok (.ifCond .eq 5, 3) := by decide +kernel
theorem d_Ev_ofBinding_20 : decode c_Ev_ofBinding 20 = .ok (.iconst 0, 1) := by decide +kernel
theorem d_Ev_ofBinding_21 : decode c_Ev_ofBinding 21 = .ok (.ireturn, 1) := by decide +kernel
theorem d_Ev_ofBinding_22 : decode c_Ev_ofBinding 22 = .ok (.aload_n 1, 1) := by decide +kernel
theorem d_Ev_ofBinding_23 : decode c_Ev_ofBinding 23 = .ok (.getfield 40, 3) := by decide +kernel
theorem d_Ev_ofBinding_26 : decode c_Ev_ofBinding 26 = .ok (.iload_n 2, 1) := by decide +kernel
theorem d_Ev_ofBinding_27 : decode c_Ev_ofBinding 27 = .ok (.iconst 1, 1) := by decide +kernel
theorem d_Ev_ofBinding_28 : decode c_Ev_ofBinding 28 = .ok (.iadd, 1) := by decide +kernel
theorem d_Ev_ofBinding_29 : decode c_Ev_ofBinding 29 = .ok (.invokevirtual 118, 3) := by decide +kernel
theorem d_Ev_ofBinding_32 : decode c_Ev_ofBinding 32 = .ok (.istore 5, 2) := by decide +kernel
theorem d_Ev_ofBinding_34 : decode c_Ev_ofBinding 34 = .ok (.aload_n 1, 1) := by decide +kernel
theorem d_Ev_ofBinding_35 : decode c_Ev_ofBinding 35 = .ok (.getfield 100, 3) := by decide +kernel
theorem d_Ev_ofBinding_38 : decode c_Ev_ofBinding 38 = .ok (.iload 5, 2) := by decide +kernel
theorem d_Ev_ofBinding_40 : decode c_Ev_ofBinding 40 = .ok (.iaload, 1) := by decide +kernel
theorem d_Ev_ofBinding_41 : decode c_Ev_ofBinding 41 = .ok (.istore 6, 2) := by decide +kernel
theorem d_Ev_ofBinding_43 : decode c_Ev_ofBinding 43 = .ok (.aload_n 1, 1) := by decide +kernel
theorem d_Ev_ofBinding_44 : decode c_Ev_ofBinding 44 = .ok (.getfield 100, 3) := by decide +kernel
theorem d_Ev_ofBinding_47 : decode c_Ev_ofBinding 47 = .ok (.iload 5, 2) := by decide +kernel
theorem d_Ev_ofBinding_49 : decode c_Ev_ofBinding 49 = .ok (.iload 4, 2) := by decide +kernel
theorem d_Ev_ofBinding_51 : decode c_Ev_ofBinding 51 = .ok (.iastore, 1) := by decide +kernel
theorem d_Ev_ofBinding_52 : decode c_Ev_ofBinding 52 = .ok (.aload_n 0, 1) := by decide +kernel
theorem d_Ev_ofBinding_53 : decode c_Ev_ofBinding 53 = .ok (.aload_n 1, 1) := by decide +kernel
theorem d_Ev_ofBinding_54 : decode c_Ev_ofBinding 54 = .ok (.aload_n 1, 1) := by decide +kernel
theorem d_Ev_ofBinding_55 : decode c_Ev_ofBinding 55 = .ok (.getfield 40, 3) := by decide +kernel
theorem d_Ev_ofBinding_58 : decode c_Ev_ofBinding 58 = .ok (.iload_n 2, 1) := by decide +kernel
theorem d_Ev_ofBinding_59 : decode c_Ev_ofBinding 59 = .ok (.iconst 2, 1) := by decide +kernel
theorem d_Ev_ofBinding_60 : decode c_Ev_ofBinding 60 = .ok (.iadd, 1) := by decide +kernel
theorem d_Ev_ofBinding_61 : decode c_Ev_ofBinding 61 = .ok (.invokevirtual 111, 3) := by decide +kernel
theorem d_Ev_ofBinding_64 : decode c_Ev_ofBinding 64 = .ok (.iload_n 3, 1) := by decide +kernel
theorem d_Ev_ofBinding_65 : decode c_Ev_ofBinding 65 = .ok (.iconst 1, 1) := by decide +kernel
theorem d_Ev_ofBinding_66 : decode c_Ev_ofBinding 66 = .ok (.iadd, 1) := by decide +kernel
theorem d_Ev_ofBinding_67 : decode c_Ev_ofBinding 67 = .ok (.invokevirtual 46, 3) := by decide +kernel
theorem d_Ev_ofBinding_70 : decode c_Ev_ofBinding 70 = .ok (.istore 7, 2) := by decide +kernel
theorem d_Ev_ofBinding_72 : decode c_Ev_ofBinding 72 = .ok (.aload_n 1, 1) := by decide +kernel
theorem d_Ev_ofBinding_73 : decode c_Ev_ofBinding 73 = .ok (.getfield 100, 3) := by decide +kernel
theorem d_Ev_ofBinding_76 : decode c_Ev_ofBinding 76 = .ok (.iload 5, 2) := by decide +kernel
theorem d_Ev_ofBinding_78 : decode c_Ev_ofBinding 78 = .ok (.iload 6, 2) := by decide +kernel
theorem d_Ev_ofBinding_80 : decode c_Ev_ofBinding 80 = .ok (.iastore, 1) := by decide +kernel
theorem d_Ev_ofBinding_81 : decode c_Ev_ofBinding 81 = .ok (.iload 7, 2) := by decide +kernel
theorem d_Ev_ofBinding_83 : decode c_Ev_ofBinding 83 = .ok (.ireturn, 1) := by decide +kernel
theorem d_Ev_ofCall_0 : decode c_Ev_ofCall 0 = .ok (.aload_n 0, 1) := by decide +kernel
theorem d_Ev_ofCall_1 : decode c_Ev_ofCall 1 = .ok (.aload_n 1, 1) := by decide +kernel
theorem d_Ev_ofCall_2 : decode c_Ev_ofCall 2 = .ok (.iload_n 2, 1) := by decide +kernel
theorem d_Ev_ofCall_3 : decode c_Ev_ofCall 3 = .ok (.iconst 2, 1) := by decide +kernel
theorem d_Ev_ofCall_4 : decode c_Ev_ofCall 4 = .ok (.iadd, 1) := by decide +kernel
theorem d_Ev_ofCall_5 : decode c_Ev_ofCall 5 = .ok (.iload_n 3, 1) := by decide +kernel
theorem d_Ev_ofCall_6 : decode c_Ev_ofCall 6 = .ok (.iconst 1, 1) := by decide +kernel
theorem d_Ev_ofCall_7 : decode c_Ev_ofCall 7 = .ok (.iadd, 1) := by decide +kernel
theorem d_Ev_ofCall_8 : decode c_Ev_ofCall 8 = .ok (.invokevirtual 46, 3) := by decide +kernel
theorem d_Ev_ofCall_11 : decode c_Ev_ofCall 11 = .ok (.istore 4, 2) := by decide +kernel
theorem d_Ev_ofCall_13 : decode c_Ev_ofCall 13 = .ok (.aload_n 0, 1) := by decide +kernel
theorem d_Ev_ofCall_14 : decode c_Ev_ofCall 14 = .ok (.invokevirtual 56, 3) := by decide +kernel
theorem d_Ev_ofCall_17 : decode c_Ev_ofCall 17 = .ok (.ifCond .eq 5, 3) := by decide +kernel
theorem d_Ev_ofCall_20 : decode c_Ev_ofCall 20 = .ok (.iconst 0, 1) := by decide +kernel
theorem d_Ev_ofCall_21 : decode c_Ev_ofCall 21 = .ok (.ireturn, 1) := by decide +kernel
theorem d_Ev_ofCall_22 : decode c_Ev_ofCall 22 = .ok (.aload_n 1, 1) := by decide +kernel
theorem d_Ev_ofCall_23 : decode c_Ev_ofCall 23 = .ok (.getfield 121, 3) := by decide +kernel
theorem d_Ev_ofCall_26 : decode c_Ev_ofCall 26 = .ok (.iconst 5, 1) := by decide +kernel
theorem d_Ev_ofCall_27 : decode c_Ev_ofCall 27 = .ok (.if_icmp .lt 10, 3) := by decide +kernel
theorem d_Ev_ofCall_30 : decode c_Ev_ofCall 30 = .ok (.aload_n 0, 1) := by decide +kernel
theorem d_Ev_ofCall_31 : decode c_Ev_ofCall 31 = .ok (.bipush 9, 2) := by decide +kernel
theorem d_Ev_ofCall_33 : decode c_Ev_ofCall 33 = .ok (.invokevirtual 66, 3) := by decide +kernel
theorem d_Ev_ofCall_36 : decode c_Ev_ofCall 36 = .ok (.ireturn, 1) := by decide +kernel
theorem d_Ev_ofCall_37 : decode c_Ev_ofCall 37 = .ok (.aload_n 0, 1) := by decide +kernel
theorem d_Ev_ofCall_38 : decode c_Ev_ofCall 38 = .ok (.getfield 20, 3) := by decide +kernel
theorem d_Ev_ofCall_41 : decode c_Ev_ofCall 41 = .ok (.aload_n 1, 1) := by decide +kernel
theorem d_Ev_ofCall_42 : decode c_Ev_ofCall 42 = .ok (.getfield 40, 3) := by decide +kernel
theorem d_Ev_ofCall_45 : decode c_Ev_ofCall 45 = .ok (.iload_n 2, 1) := by decide +kernel
theorem d_Ev_ofCall_46 : decode c_Ev_ofCall 46 = .ok (.iconst 1, 1) := by decide +kernel
theorem d_Ev_ofCall_47 : decode c_Ev_ofCall 47 = .ok (.iadd, 1) := by decide +kernel
theorem d_Ev_ofCall_48 : decode c_Ev_ofCall 48 = .ok (.invokevirtual 70, 3) := by decide +kernel
theorem d_Ev_ofCall_51 : decode c_Ev_ofCall 51 = .ok (.invokestatic 107, 3) := by decide +kernel
theorem d_Ev_ofCall_54 : decode c_Ev_ofCall 54 = .ok (.astore 5, 2) := by decide +kernel
theorem d_Ev_ofCall_56 : decode c_Ev_ofCall 56 = .ok (.aload 5, 2) := by decide +kernel
theorem d_Ev_ofCall_58 : decode c_Ev_ofCall 58 = .ok (.ifnonnull 5, 3) := by decide +kernel
theorem d_Ev_ofCall_61 : decode c_Ev_ofCall 61 = .ok (.iconst 0, 1) := by decide +kernel
theorem d_Ev_ofCall_62 : decode c_Ev_ofCall 62 = .ok (.ireturn, 1) := by decide +kernel
theorem d_Ev_ofCall_63 : decode c_Ev_ofCall 63 = .ok (.aload_n 0, 1) := by decide +kernel
theorem d_Ev_ofCall_64 : decode c_Ev_ofCall 64 = .ok (.getfield 11, 3) := by decide +kernel
theorem d_Ev_ofCall_67 : decode c_Ev_ofCall 67 = .ok (.aload_n 1, 1) := by decide +kernel
theorem d_Ev_ofCall_68 : decode c_Ev_ofCall 68 = .ok (.getfield 121, 3) := by decide +kernel
theorem d_Ev_ofCall_71 : decode c_Ev_ofCall 71 = .ok (.iconst 1, 1) := by decide +kernel
theorem d_Ev_ofCall_72 : decode c_Ev_ofCall 72 = .ok (.iadd, 1) := by decide +kernel
theorem d_Ev_ofCall_73 : decode c_Ev_ofCall 73 = .ok (.aaload, 1) := by decide +kernel
theorem d_Ev_ofCall_74 : decode c_Ev_ofCall 74 = .ok (.astore 6, 2) := by decide +kernel
theorem d_Ev_ofCall_76 : decode c_Ev_ofCall 76 = .ok (.aload 6, 2) := by decide +kernel
theorem d_Ev_ofCall_78 : decode c_Ev_ofCall 78 = .ok (.aload 5, 2) := by decide +kernel
theorem d_Ev_ofCall_80 : decode c_Ev_ofCall 80 = .ok (.getfield 34, 3) := by decide +kernel
theorem d_Ev_ofCall_83 : decode c_Ev_ofCall 83 = .ok (.putfield 40, 3) := by decide +kernel
theorem d_Ev_ofCall_86 : decode c_Ev_ofCall 86 = .ok (.aload 6, 2) := by decide +kernel
theorem d_Ev_ofCall_88 : decode c_Ev_ofCall 88 = .ok (.getfield 100, 3) := by decide +kernel
theorem d_Ev_ofCall_91 : decode c_Ev_ofCall 91 = .ok (.aload 5, 2) := by decide +kernel
theorem d_Ev_ofCall_93 : decode c_Ev_ofCall 93 = .ok (.getfield 34, 3) := by decide +kernel
theorem d_Ev_ofCall_96 : decode c_Ev_ofCall 96 = .ok (.iconst 1, 1) := by decide +kernel
theorem d_Ev_ofCall_97 : decode c_Ev_ofCall 97 = .ok (.invokevirtual 118, 3) := by decide +kernel
theorem d_Ev_ofCall_100 : decode c_Ev_ofCall 100 = .ok (.iload 4, 2) := by decide +kernel
theorem d_Ev_ofCall_102 : decode c_Ev_ofCall 102 = .ok (.iastore, 1) := by decide +kernel
theorem d_Ev_ofCall_103 : decode c_Ev_ofCall 103 = .ok (.aload_n 0, 1) := by decide +kernel
theorem d_Ev_ofCall_104 : decode c_Ev_ofCall 104 = .ok (.aload 6, 2) := by decide +kernel
theorem d_Ev_ofCall_106 : decode c_Ev_ofCall 106 = .ok (.aload 5, 2) := by decide +kernel
theorem d_Ev_ofCall_108 : decode c_Ev_ofCall 108 = .ok (.getfield 34, 3) := by decide +kernel
theorem d_Ev_ofCall_111 : decode c_Ev_ofCall 111 = .ok (.getfield 41, 3) := by decide +kernel
theorem d_Ev_ofCall_114 : decode c_Ev_ofCall 114 = .ok (.iconst 0, 1) := by decide +kernel
theorem d_Ev_ofCall_115 : decode c_Ev_ofCall 115 = .ok (.invokevirtual 46, 3) := by decide +kernel
theorem d_Ev_ofCall_118 : decode c_Ev_ofCall 118 = .ok (.ireturn, 1) := by decide +kernel
theorem d_Ev_ofMatch_0 : decode c_Ev_ofMatch 0 = .ok (.aload_n 0, 1) := by decide +kernel
theorem d_Ev_ofMatch_1 : decode c_Ev_ofMatch 1 = .ok (.aload_n 1, 1) := by decide +kernel
theorem d_Ev_ofMatch_2 : decode c_Ev_ofMatch 2 = .ok (.iload_n 2, 1) := by decide +kernel
theorem d_Ev_ofMatch_3 : decode c_Ev_ofMatch 3 = .ok (.iconst 1, 1) := by decide +kernel
theorem d_Ev_ofMatch_4 : decode c_Ev_ofMatch 4 = .ok (.iadd, 1) := by decide +kernel
theorem d_Ev_ofMatch_5 : decode c_Ev_ofMatch 5 = .ok (.iload_n 3, 1) := by decide +kernel
theorem d_Ev_ofMatch_6 : decode c_Ev_ofMatch 6 = .ok (.iconst 1, 1) := by decide +kernel
theorem d_Ev_ofMatch_7 : decode c_Ev_ofMatch 7 = .ok (.iadd, 1) := by decide +kernel
theorem d_Ev_ofMatch_8 : decode c_Ev_ofMatch 8 = .ok (.invokevirtual 46, 3) := by decide +kernel
theorem d_Ev_ofMatch_11 : decode c_Ev_ofMatch 11 = .ok (.istore 4, 2) := by decide +kernel
theorem d_Ev_ofMatch_13 : decode c_Ev_ofMatch 13 = .ok (.aload_n 0, 1) := by decide +kernel
theorem d_Ev_ofMatch_14 : decode c_Ev_ofMatch 14 = .ok (.invokevirtual 56, 3) := by decide +kernel
theorem d_Ev_ofMatch_17 : decode c_Ev_ofMatch 17 = .ok (.ifCond .eq 5, 3) := by decide +kernel
theorem d_Ev_ofMatch_20 : decode c_Ev_ofMatch 20 = .ok (.iconst 0, 1) := by decide +kernel
theorem d_Ev_ofMatch_21 : decode c_Ev_ofMatch 21 = .ok (.ireturn, 1) := by decide +kernel
theorem d_Ev_ofMatch_22 : decode c_Ev_ofMatch 22 = .ok (.aload_n 1, 1) := by decide +kernel
theorem d_Ev_ofMatch_23 : decode c_Ev_ofMatch 23 = .ok (.getfield 40, 3) := by decide +kernel
theorem d_Ev_ofMatch_26 : decode c_Ev_ofMatch 26 = .ok (.iload_n 2, 1) := by decide +kernel
theorem d_Ev_ofMatch_27 : decode c_Ev_ofMatch 27 = .ok (.iconst 1, 1) := by decide +kernel
theorem d_Ev_ofMatch_28 : decode c_Ev_ofMatch 28 = .ok (.iadd, 1) := by decide +kernel
theorem d_Ev_ofMatch_29 : decode c_Ev_ofMatch 29 = .ok (.invokevirtual 111, 3) := by decide +kernel
theorem d_Ev_ofMatch_32 : decode c_Ev_ofMatch 32 = .ok (.istore 5, 2) := by decide +kernel
theorem d_Ev_ofMatch_34 : decode c_Ev_ofMatch 34 = .ok (.iconst 0, 1) := by decide +kernel
theorem d_Ev_ofMatch_35 : decode c_Ev_ofMatch 35 = .ok (.istore 6, 2) := by decide +kernel
theorem d_Ev_ofMatch_37 : decode c_Ev_ofMatch 37 = .ok (.iload 6, 2) := by decide +kernel
theorem d_Ev_ofMatch_39 : decode c_Ev_ofMatch 39 = .ok (.iconst 2, 1) := by decide +kernel
theorem d_Ev_ofMatch_40 : decode c_Ev_ofMatch 40 = .ok (.if_icmp .ge 52, 3) := by decide +kernel
theorem d_Ev_ofMatch_43 : decode c_Ev_ofMatch 43 = .ok (.aload_n 1, 1) := by decide +kernel
theorem d_Ev_ofMatch_44 : decode c_Ev_ofMatch 44 = .ok (.getfield 40, 3) := by decide +kernel
theorem d_Ev_ofMatch_47 : decode c_Ev_ofMatch 47 = .ok (.iload 5, 2) := by decide +kernel
theorem d_Ev_ofMatch_49 : decode c_Ev_ofMatch 49 = .ok (.invokevirtual 70, 3) := by decide +kernel
theorem d_Ev_ofMatch_52 : decode c_Ev_ofMatch 52 = .ok (.bipush 48, 2) := by decide +kernel
theorem d_Ev_ofMatch_54 : decode c_Ev_ofMatch 54 = .ok (.isub, 1) := by decide +kernel
theorem d_Ev_ofMatch_55 : decode c_Ev_ofMatch 55 = .ok (.iload 4, 2) := by decide +kernel
theorem d_Ev_ofMatch_57 : decode c_Ev_ofMatch 57 = .ok (.if_icmp .ne 16, 3) := by decide +kernel
theorem d_Ev_ofMatch_60 : decode c_Ev_ofMatch 60 = .ok (.aload_n 0, 1) := by decide +kernel
theorem d_Ev_ofMatch_61 : decode c_Ev_ofMatch 61 = .ok (.aload_n 1, 1) := by decide +kernel
theorem d_Ev_ofMatch_62 : decode c_Ev_ofMatch 62 = .ok (.iload 5, 2) := by decide +kernel
theorem d_Ev_ofMatch_64 : decode c_Ev_ofMatch 64 = .ok (.iconst 1, 1) := by decide +kernel
theorem d_Ev_ofMatch_65 : decode c_Ev_ofMatch 65 = .ok (.iadd, 1) := by decide +kernel
theorem d_Ev_ofMatch_66 : decode c_Ev_ofMatch 66 = .ok (.iload_n 3, 1) := by decide +kernel
theorem d_Ev_ofMatch_67 : decode c_Ev_ofMatch 67 = .ok (.iconst 1, 1) := by decide +kernel
theorem d_Ev_ofMatch_68 : decode c_Ev_ofMatch 68 = .ok (.iadd, 1) := by decide +kernel
theorem d_Ev_ofMatch_69 : decode c_Ev_ofMatch 69 = .ok (.invokevirtual 46, 3) := by decide +kernel
theorem d_Ev_ofMatch_72 : decode c_Ev_ofMatch 72 = .ok (.ireturn, 1) := by decide +kernel
theorem d_Ev_ofMatch_73 : decode c_Ev_ofMatch 73 = .ok (.aload_n 1, 1) := by decide +kernel
theorem d_Ev_ofMatch_74 : decode c_Ev_ofMatch 74 = .ok (.getfield 40, 3) := by decide +kernel
theorem d_Ev_ofMatch_77 : decode c_Ev_ofMatch 77 = .ok (.iload 5, 2) := by decide +kernel
theorem d_Ev_ofMatch_79 : decode c_Ev_ofMatch 79 = .ok (.iconst 1, 1) := by decide +kernel
theorem d_Ev_ofMatch_80 : decode c_Ev_ofMatch 80 = .ok (.iadd, 1) := by decide +kernel
theorem d_Ev_ofMatch_81 : decode c_Ev_ofMatch 81 = .ok (.invokevirtual 111, 3) := by decide +kernel
theorem d_Ev_ofMatch_84 : decode c_Ev_ofMatch 84 = .ok (.istore 5, 2) := by decide +kernel
theorem d_Ev_ofMatch_86 : decode c_Ev_ofMatch 86 = .ok (.iinc 6 1, 3) := by decide +kernel
theorem d_Ev_ofMatch_89 : decode c_Ev_ofMatch 89 = .ok (.goto (-52), 3) := by decide +kernel
theorem d_Ev_ofMatch_92 : decode c_Ev_ofMatch 92 = .ok (.aload_n 0, 1) := by decide +kernel
theorem d_Ev_ofMatch_93 : decode c_Ev_ofMatch 93 = .ok (.bipush 8, 2) := by decide +kernel
theorem d_Ev_ofMatch_95 : decode c_Ev_ofMatch 95 = .ok (.invokevirtual 66, 3) := by decide +kernel
theorem d_Ev_ofMatch_98 : decode c_Ev_ofMatch 98 = .ok (.ireturn, 1) := by decide +kernel
theorem d_Ev_ofPair_0 : decode c_Ev_ofPair 0 = .ok (.aload_n 0, 1) := by decide +kernel
theorem d_Ev_ofPair_1 : decode c_Ev_ofPair 1 = .ok (.aload_n 1, 1) := by decide +kernel
theorem d_Ev_ofPair_2 : decode c_Ev_ofPair 2 = .ok (.iload_n 2, 1) := by decide +kernel
theorem d_Ev_ofPair_3 : decode c_Ev_ofPair 3 = .ok (.iconst 1, 1) := by decide +kernel
theorem d_Ev_ofPair_4 : decode c_Ev_ofPair 4 = .ok (.iadd, 1) := by decide +kernel
theorem d_Ev_ofPair_5 : decode c_Ev_ofPair 5 = .ok (.iload_n 3, 1) := by decide +kernel
theorem d_Ev_ofPair_6 : decode c_Ev_ofPair 6 = .ok (.iconst 1, 1) := by decide +kernel
theorem d_Ev_ofPair_7 : decode c_Ev_ofPair 7 = .ok (.iadd, 1) := by decide +kernel
theorem d_Ev_ofPair_8 : decode c_Ev_ofPair 8 = .ok (.invokevirtual 46, 3) := by decide +kernel
theorem d_Ev_ofPair_11 : decode c_Ev_ofPair 11 = .ok (.istore 4, 2) := by decide +kernel
theorem d_Ev_ofPair_13 : decode c_Ev_ofPair 13 = .ok (.aload_n 0, 1) := by decide +kernel
theorem d_Ev_ofPair_14 : decode c_Ev_ofPair 14 = .ok (.invokevirtual 56, 3) := by decide +kernel
theorem d_Ev_ofPair_17 : decode c_Ev_ofPair 17 = .ok (.ifCond .eq 5, 3) := by decide +kernel
theorem d_Ev_ofPair_20 : decode c_Ev_ofPair 20 = .ok (.iconst 0, 1) := by decide +kernel
theorem d_Ev_ofPair_21 : decode c_Ev_ofPair 21 = .ok (.ireturn, 1) := by decide +kernel
theorem d_Ev_ofPair_22 : decode c_Ev_ofPair 22 = .ok (.aload_n 0, 1) := by decide +kernel
theorem d_Ev_ofPair_23 : decode c_Ev_ofPair 23 = .ok (.aload_n 1, 1) := by decide +kernel
theorem d_Ev_ofPair_24 : decode c_Ev_ofPair 24 = .ok (.aload_n 1, 1) := by decide +kernel
theorem d_Ev_ofPair_25 : decode c_Ev_ofPair 25 = .ok (.getfield 40, 3) := by decide +kernel
theorem d_Ev_ofPair_28 : decode c_Ev_ofPair 28 = .ok (.iload_n 2, 1) := by decide +kernel
theorem d_Ev_ofPair_29 : decode c_Ev_ofPair 29 = .ok (.iconst 1, 1) := by decide +kernel
theorem d_Ev_ofPair_30 : decode c_Ev_ofPair 30 = .ok (.iadd, 1) := by decide +kernel
theorem d_Ev_ofPair_31 : decode c_Ev_ofPair 31 = .ok (.invokevirtual 111, 3) := by decide +kernel
theorem d_Ev_ofPair_34 : decode c_Ev_ofPair 34 = .ok (.iload_n 3, 1) := by decide +kernel
theorem d_Ev_ofPair_35 : decode c_Ev_ofPair 35 = .ok (.iconst 1, 1) := by decide +kernel
theorem d_Ev_ofPair_36 : decode c_Ev_ofPair 36 = .ok (.iadd, 1) := by decide +kernel
theorem d_Ev_ofPair_37 : decode c_Ev_ofPair 37 = .ok (.invokevirtual 46, 3) := by decide +kernel
theorem d_Ev_ofPair_40 : decode c_Ev_ofPair 40 = .ok (.istore 5, 2) := by decide +kernel
theorem d_Ev_ofPair_42 : decode c_Ev_ofPair 42 = .ok (.aload_n 0, 1) := by decide +kernel
theorem d_Ev_ofPair_43 : decode c_Ev_ofPair 43 = .ok (.invokevirtual 56, 3) := by decide +kernel
theorem d_Ev_ofPair_46 : decode c_Ev_ofPair 46 = .ok (.ifCond .eq 5, 3) := by decide +kernel
theorem d_Ev_ofPair_49 : decode c_Ev_ofPair 49 = .ok (.iconst 0, 1) := by decide +kernel
theorem d_Ev_ofPair_50 : decode c_Ev_ofPair 50 = .ok (.ireturn, 1) := by decide +kernel
theorem d_Ev_ofPair_51 : decode c_Ev_ofPair 51 = .ok (.aload_n 0, 1) := by decide +kernel
theorem d_Ev_ofPair_52 : decode c_Ev_ofPair 52 = .ok (.aload_n 1, 1) := by decide +kernel
theorem d_Ev_ofPair_53 : decode c_Ev_ofPair 53 = .ok (.getfield 40, 3) := by decide +kernel
theorem d_Ev_ofPair_56 : decode c_Ev_ofPair 56 = .ok (.iload_n 2, 1) := by decide +kernel
theorem d_Ev_ofPair_57 : decode c_Ev_ofPair 57 = .ok (.invokevirtual 70, 3) := by decide +kernel
theorem d_Ev_ofPair_60 : decode c_Ev_ofPair 60 = .ok (.iload 4, 2) := by decide +kernel
theorem d_Ev_ofPair_62 : decode c_Ev_ofPair 62 = .ok (.iload 5, 2) := by decide +kernel
theorem d_Ev_ofPair_64 : decode c_Ev_ofPair 64 = .ok (.invokevirtual 114, 3) := by decide +kernel
theorem d_Ev_ofPair_67 : decode c_Ev_ofPair 67 = .ok (.ireturn, 1) := by decide +kernel
theorem d_Ev_combine_0 : decode c_Ev_combine 0 = .ok (.iload_n 1, 1) := by decide +kernel
theorem d_Ev_combine_1 : decode c_Ev_combine 1 = .ok (.lookupswitch 91 #[(42, 59), (43, 51), (45, 55), (47, 63), (60, 80)], 51) := by decide +kernel
theorem d_Ev_combine_52 : decode c_Ev_combine 52 = .ok (.iload_n 2, 1) := by decide +kernel
theorem d_Ev_combine_53 : decode c_Ev_combine 53 = .ok (.iload_n 3, 1) := by decide +kernel
theorem d_Ev_combine_54 : decode c_Ev_combine 54 = .ok (.iadd, 1) := by decide +kernel
theorem d_Ev_combine_55 : decode c_Ev_combine 55 = .ok (.ireturn, 1) := by decide +kernel
theorem d_Ev_combine_56 : decode c_Ev_combine 56 = .ok (.iload_n 2, 1) := by decide +kernel
theorem d_Ev_combine_57 : decode c_Ev_combine 57 = .ok (.iload_n 3, 1) := by decide +kernel
theorem d_Ev_combine_58 : decode c_Ev_combine 58 = .ok (.isub, 1) := by decide +kernel
theorem d_Ev_combine_59 : decode c_Ev_combine 59 = .ok (.ireturn, 1) := by decide +kernel
theorem d_Ev_combine_60 : decode c_Ev_combine 60 = .ok (.iload_n 2, 1) := by decide +kernel
theorem d_Ev_combine_61 : decode c_Ev_combine 61 = .ok (.iload_n 3, 1) := by decide +kernel
theorem d_Ev_combine_62 : decode c_Ev_combine 62 = .ok (.imul, 1) := by decide +kernel
theorem d_Ev_combine_63 : decode c_Ev_combine 63 = .ok (.ireturn, 1) := by decide +kernel
theorem d_Ev_combine_64 : decode c_Ev_combine 64 = .ok (.iload_n 3, 1) := by decide +kernel
theorem d_Ev_combine_65 : decode c_Ev_combine 65 = .ok (.ifCond .ne 12, 3) := by decide +kernel
theorem d_Ev_combine_68 : decode c_Ev_combine 68 = .ok (.aload_n 0, 1) := by decide +kernel
theorem d_Ev_combine_69 : decode c_Ev_combine 69 = .ok (.bipush 7, 2) := by decide +kernel
theorem d_Ev_combine_71 : decode c_Ev_combine 71 = .ok (.invokevirtual 66, 3) := by decide +kernel
theorem d_Ev_combine_74 : decode c_Ev_combine 74 = .ok (.goto 6, 3) := by decide +kernel
theorem d_Ev_combine_77 : decode c_Ev_combine 77 = .ok (.iload_n 2, 1) := by decide +kernel
theorem d_Ev_combine_78 : decode c_Ev_combine 78 = .ok (.iload_n 3, 1) := by decide +kernel
theorem d_Ev_combine_79 : decode c_Ev_combine 79 = .ok (.idiv, 1) := by decide +kernel
theorem d_Ev_combine_80 : decode c_Ev_combine 80 = .ok (.ireturn, 1) := by decide +kernel
theorem d_Ev_combine_81 : decode c_Ev_combine 81 = .ok (.iload_n 2, 1) := by decide +kernel
theorem d_Ev_combine_82 : decode c_Ev_combine 82 = .ok (.iload_n 3, 1) := by decide +kernel
theorem d_Ev_combine_83 : decode c_Ev_combine 83 = .ok (.if_icmp .ge 7, 3) := by decide +kernel
theorem d_Ev_combine_86 : decode c_Ev_combine 86 = .ok (.iconst 1, 1) := by decide +kernel
theorem d_Ev_combine_87 : decode c_Ev_combine 87 = .ok (.goto 4, 3) := by decide +kernel
theorem d_Ev_combine_90 : decode c_Ev_combine 90 = .ok (.iconst 0, 1) := by decide +kernel
theorem d_Ev_combine_91 : decode c_Ev_combine 91 = .ok (.ireturn, 1) := by decide +kernel
theorem d_Ev_combine_92 : decode c_Ev_combine 92 = .ok (.iload_n 2, 1) := by decide +kernel
theorem d_Ev_combine_93 : decode c_Ev_combine 93 = .ok (.iload_n 3, 1) := by decide +kernel
theorem d_Ev_combine_94 : decode c_Ev_combine 94 = .ok (.if_icmp .ne 7, 3) := by decide +kernel
theorem d_Ev_combine_97 : decode c_Ev_combine 97 = .ok (.iconst 1, 1) := by decide +kernel
theorem d_Ev_combine_98 : decode c_Ev_combine 98 = .ok (.goto 4, 3) := by decide +kernel
theorem d_Ev_combine_101 : decode c_Ev_combine 101 = .ok (.iconst 0, 1) := by decide +kernel
theorem d_Ev_combine_102 : decode c_Ev_combine 102 = .ok (.ireturn, 1) := by decide +kernel
theorem d_Ev_ofLeaf_0 : decode c_Ev_ofLeaf 0 = .ok (.aload_n 1, 1) := by decide +kernel
theorem d_Ev_ofLeaf_1 : decode c_Ev_ofLeaf 1 = .ok (.getfield 40, 3) := by decide +kernel
theorem d_Ev_ofLeaf_4 : decode c_Ev_ofLeaf 4 = .ok (.iload_n 2, 1) := by decide +kernel
theorem d_Ev_ofLeaf_5 : decode c_Ev_ofLeaf 5 = .ok (.invokevirtual 70, 3) := by decide +kernel
theorem d_Ev_ofLeaf_8 : decode c_Ev_ofLeaf 8 = .ok (.istore_n 3, 1) := by decide +kernel
theorem d_Ev_ofLeaf_9 : decode c_Ev_ofLeaf 9 = .ok (.iload_n 3, 1) := by decide +kernel
theorem d_Ev_ofLeaf_10 : decode c_Ev_ofLeaf 10 = .ok (.invokestatic 96, 3) := by decide +kernel
theorem d_Ev_ofLeaf_13 : decode c_Ev_ofLeaf 13 = .ok (.ifCond .eq 13, 3) := by decide +kernel
theorem d_Ev_ofLeaf_16 : decode c_Ev_ofLeaf 16 = .ok (.aload_n 1, 1) := by decide +kernel
theorem d_Ev_ofLeaf_17 : decode c_Ev_ofLeaf 17 = .ok (.getfield 100, 3) := by decide +kernel
theorem d_Ev_ofLeaf_20 : decode c_Ev_ofLeaf 20 = .ok (.iload_n 3, 1) := by decide +kernel
theorem d_Ev_ofLeaf_21 : decode c_Ev_ofLeaf 21 = .ok (.bipush 107, 2) := by decide +kernel
theorem d_Ev_ofLeaf_23 : decode c_Ev_ofLeaf 23 = .ok (.isub, 1) := by decide +kernel
theorem d_Ev_ofLeaf_24 : decode c_Ev_ofLeaf 24 = .ok (.iaload, 1) := by decide +kernel
theorem d_Ev_ofLeaf_25 : decode c_Ev_ofLeaf 25 = .ok (.ireturn, 1) := by decide +kernel
theorem d_Ev_ofLeaf_26 : decode c_Ev_ofLeaf 26 = .ok (.iload_n 3, 1) := by decide +kernel
theorem d_Ev_ofLeaf_27 : decode c_Ev_ofLeaf 27 = .ok (.invokestatic 104, 3) := by decide +kernel
theorem d_Ev_ofLeaf_30 : decode c_Ev_ofLeaf 30 = .ok (.ifCond .eq 8, 3) := by decide +kernel
theorem d_Ev_ofLeaf_33 : decode c_Ev_ofLeaf 33 = .ok (.iload_n 3, 1) := by decide +kernel
theorem d_Ev_ofLeaf_34 : decode c_Ev_ofLeaf 34 = .ok (.bipush 48, 2) := by decide +kernel
theorem d_Ev_ofLeaf_36 : decode c_Ev_ofLeaf 36 = .ok (.isub, 1) := by decide +kernel
theorem d_Ev_ofLeaf_37 : decode c_Ev_ofLeaf 37 = .ok (.ireturn, 1) := by decide +kernel
theorem d_Ev_ofLeaf_38 : decode c_Ev_ofLeaf 38 = .ok (.aload_n 0, 1) := by decide +kernel
theorem d_Ev_ofLeaf_39 : decode c_Ev_ofLeaf 39 = .ok (.getfield 20, 3) := by decide +kernel
theorem d_Ev_ofLeaf_42 : decode c_Ev_ofLeaf 42 = .ok (.iload_n 3, 1) := by decide +kernel
theorem d_Ev_ofLeaf_43 : decode c_Ev_ofLeaf 43 = .ok (.invokestatic 107, 3) := by decide +kernel
theorem d_Ev_ofLeaf_46 : decode c_Ev_ofLeaf 46 = .ok (.astore 4, 2) := by decide +kernel
theorem d_Ev_ofLeaf_48 : decode c_Ev_ofLeaf 48 = .ok (.aload 4, 2) := by decide +kernel
theorem d_Ev_ofLeaf_50 : decode c_Ev_ofLeaf 50 = .ok (.ifnonnull 7, 3) := by decide +kernel
theorem d_Ev_ofLeaf_53 : decode c_Ev_ofLeaf 53 = .ok (.iconst 0, 1) := by decide +kernel
theorem d_Ev_ofLeaf_54 : decode c_Ev_ofLeaf 54 = .ok (.goto 8, 3) := by decide +kernel
theorem d_Ev_ofLeaf_57 : decode c_Ev_ofLeaf 57 = .ok (.aload 4, 2) := by decide +kernel
theorem d_Ev_ofLeaf_59 : decode c_Ev_ofLeaf 59 = .ok (.getfield 50, 3) := by decide +kernel
theorem d_Ev_ofLeaf_62 : decode c_Ev_ofLeaf 62 = .ok (.ireturn, 1) := by decide +kernel
theorem d_B_cancel_0 : decode c_B_cancel 0 = .ok (.iload_n 1, 1) := by decide +kernel
theorem d_B_cancel_1 : decode c_B_cancel 1 = .ok (.invokestatic 46, 3) := by decide +kernel
theorem d_B_cancel_4 : decode c_B_cancel 4 = .ok (.ifCond .eq 17, 3) := by decide +kernel
theorem d_B_cancel_7 : decode c_B_cancel 7 = .ok (.aload_n 0, 1) := by decide +kernel
theorem d_B_cancel_8 : decode c_B_cancel 8 = .ok (.getfield 11, 3) := by decide +kernel
theorem d_B_cancel_11 : decode c_B_cancel 11 = .ok (.iload_n 1, 1) := by decide +kernel
theorem d_B_cancel_12 : decode c_B_cancel 12 = .ok (.aaload, 1) := by decide +kernel
theorem d_B_cancel_13 : decode c_B_cancel 13 = .ok (.invokevirtual 84, 3) := by decide +kernel
theorem d_B_cancel_16 : decode c_B_cancel 16 = .ok (.bipush 12, 2) := by decide +kernel
theorem d_B_cancel_18 : decode c_B_cancel 18 = .ok (.if_icmp .eq 5, 3) := by decide +kernel
theorem d_B_cancel_21 : decode c_B_cancel 21 = .ok (.iconst 0, 1) := by decide +kernel
theorem d_B_cancel_22 : decode c_B_cancel 22 = .ok (.ireturn, 1) := by decide +kernel
theorem d_B_cancel_23 : decode c_B_cancel 23 = .ok (.aload_n 0, 1) := by decide +kernel
theorem d_B_cancel_24 : decode c_B_cancel 24 = .ok (.getfield 11, 3) := by decide +kernel
theorem d_B_cancel_27 : decode c_B_cancel 27 = .ok (.iload_n 1, 1) := by decide +kernel
theorem d_B_cancel_28 : decode c_B_cancel 28 = .ok (.aaload, 1) := by decide +kernel
theorem d_B_cancel_29 : decode c_B_cancel 29 = .ok (.iconst 0, 1) := by decide +kernel
theorem d_B_cancel_30 : decode c_B_cancel 30 = .ok (.putfield 87, 3) := by decide +kernel
theorem d_B_cancel_33 : decode c_B_cancel 33 = .ok (.aload_n 0, 1) := by decide +kernel
theorem d_B_cancel_34 : decode c_B_cancel 34 = .ok (.getfield 11, 3) := by decide +kernel
theorem d_B_cancel_37 : decode c_B_cancel 37 = .ok (.iload_n 1, 1) := by decide +kernel
theorem d_B_cancel_38 : decode c_B_cancel 38 = .ok (.aaload, 1) := by decide +kernel
theorem d_B_cancel_39 : decode c_B_cancel 39 = .ok (.bipush 11, 2) := by decide +kernel
theorem d_B_cancel_41 : decode c_B_cancel 41 = .ok (.putfield 91, 3) := by decide +kernel
theorem d_B_cancel_44 : decode c_B_cancel 44 = .ok (.iconst 1, 1) := by decide +kernel
theorem d_B_cancel_45 : decode c_B_cancel 45 = .ok (.ireturn, 1) := by decide +kernel
theorem d_B_status_0 : decode c_B_status 0 = .ok (.iload_n 1, 1) := by decide +kernel
theorem d_B_status_1 : decode c_B_status 1 = .ok (.invokestatic 46, 3) := by decide +kernel
theorem d_B_status_4 : decode c_B_status 4 = .ok (.ifCond .eq 15, 3) := by decide +kernel
theorem d_B_status_7 : decode c_B_status 7 = .ok (.aload_n 0, 1) := by decide +kernel
theorem d_B_status_8 : decode c_B_status 8 = .ok (.getfield 11, 3) := by decide +kernel
theorem d_B_status_11 : decode c_B_status 11 = .ok (.iload_n 1, 1) := by decide +kernel
theorem d_B_status_12 : decode c_B_status 12 = .ok (.aaload, 1) := by decide +kernel
theorem d_B_status_13 : decode c_B_status 13 = .ok (.invokevirtual 84, 3) := by decide +kernel
theorem d_B_status_16 : decode c_B_status 16 = .ok (.goto 4, 3) := by decide +kernel
theorem d_B_status_19 : decode c_B_status 19 = .ok (.iconst 0, 1) := by decide +kernel
theorem d_B_status_20 : decode c_B_status 20 = .ok (.ireturn, 1) := by decide +kernel
theorem d_B_value_0 : decode c_B_value 0 = .ok (.iload_n 1, 1) := by decide +kernel
theorem d_B_value_1 : decode c_B_value 1 = .ok (.invokestatic 46, 3) := by decide +kernel
theorem d_B_value_4 : decode c_B_value 4 = .ok (.ifCond .eq 29, 3) := by decide +kernel
theorem d_B_value_7 : decode c_B_value 7 = .ok (.aload_n 0, 1) := by decide +kernel
theorem d_B_value_8 : decode c_B_value 8 = .ok (.getfield 11, 3) := by decide +kernel
theorem d_B_value_11 : decode c_B_value 11 = .ok (.iload_n 1, 1) := by decide +kernel
theorem d_B_value_12 : decode c_B_value 12 = .ok (.aaload, 1) := by decide +kernel
theorem d_B_value_13 : decode c_B_value 13 = .ok (.invokevirtual 84, 3) := by decide +kernel
theorem d_B_value_16 : decode c_B_value 16 = .ok (.bipush 14, 2) := by decide +kernel
theorem d_B_value_18 : decode c_B_value 18 = .ok (.if_icmp .ne 15, 3) := by decide +kernel
theorem d_B_value_21 : decode c_B_value 21 = .ok (.aload_n 0, 1) := by decide +kernel
theorem d_B_value_22 : decode c_B_value 22 = .ok (.getfield 11, 3) := by decide +kernel
theorem d_B_value_25 : decode c_B_value 25 = .ok (.iload_n 1, 1) := by decide +kernel
theorem d_B_value_26 : decode c_B_value 26 = .ok (.aaload, 1) := by decide +kernel
theorem d_B_value_27 : decode c_B_value 27 = .ok (.getfield 94, 3) := by decide +kernel
theorem d_B_value_30 : decode c_B_value 30 = .ok (.goto 4, 3) := by decide +kernel
theorem d_B_value_33 : decode c_B_value 33 = .ok (.iconst 0, 1) := by decide +kernel
theorem d_B_value_34 : decode c_B_value 34 = .ok (.ireturn, 1) := by decide +kernel
theorem d_B_kind_0 : decode c_B_kind 0 = .ok (.iload_n 1, 1) := by decide +kernel
theorem d_B_kind_1 : decode c_B_kind 1 = .ok (.invokestatic 46, 3) := by decide +kernel
theorem d_B_kind_4 : decode c_B_kind 4 = .ok (.ifCond .eq 29, 3) := by decide +kernel
theorem d_B_kind_7 : decode c_B_kind 7 = .ok (.aload_n 0, 1) := by decide +kernel
theorem d_B_kind_8 : decode c_B_kind 8 = .ok (.getfield 11, 3) := by decide +kernel
theorem d_B_kind_11 : decode c_B_kind 11 = .ok (.iload_n 1, 1) := by decide +kernel
theorem d_B_kind_12 : decode c_B_kind 12 = .ok (.aaload, 1) := by decide +kernel
theorem d_B_kind_13 : decode c_B_kind 13 = .ok (.invokevirtual 84, 3) := by decide +kernel
theorem d_B_kind_16 : decode c_B_kind 16 = .ok (.bipush 14, 2) := by decide +kernel
theorem d_B_kind_18 : decode c_B_kind 18 = .ok (.if_icmp .ne 15, 3) := by decide +kernel
theorem d_B_kind_21 : decode c_B_kind 21 = .ok (.aload_n 0, 1) := by decide +kernel
theorem d_B_kind_22 : decode c_B_kind 22 = .ok (.getfield 11, 3) := by decide +kernel
theorem d_B_kind_25 : decode c_B_kind 25 = .ok (.iload_n 1, 1) := by decide +kernel
theorem d_B_kind_26 : decode c_B_kind 26 = .ok (.aaload, 1) := by decide +kernel
theorem d_B_kind_27 : decode c_B_kind 27 = .ok (.getfield 97, 3) := by decide +kernel
theorem d_B_kind_30 : decode c_B_kind 30 = .ok (.goto 4, 3) := by decide +kernel
theorem d_B_kind_33 : decode c_B_kind 33 = .ok (.iconst 0, 1) := by decide +kernel
theorem d_B_kind_34 : decode c_B_kind 34 = .ok (.ireturn, 1) := by decide +kernel
theorem d_B_uses_0 : decode c_B_uses 0 = .ok (.iload_n 1, 1) := by decide +kernel
theorem d_B_uses_1 : decode c_B_uses 1 = .ok (.invokestatic 46, 3) := by decide +kernel
theorem d_B_uses_4 : decode c_B_uses 4 = .ok (.ifCond .eq 18, 3) := by decide +kernel
theorem d_B_uses_7 : decode c_B_uses 7 = .ok (.aload_n 0, 1) := by decide +kernel
theorem d_B_uses_8 : decode c_B_uses 8 = .ok (.getfield 11, 3) := by decide +kernel
theorem d_B_uses_11 : decode c_B_uses 11 = .ok (.iload_n 1, 1) := by decide +kernel
theorem d_B_uses_12 : decode c_B_uses 12 = .ok (.aaload, 1) := by decide +kernel
theorem d_B_uses_13 : decode c_B_uses 13 = .ok (.getfield 57, 3) := by decide +kernel
theorem d_B_uses_16 : decode c_B_uses 16 = .ok (.getfield 100, 3) := by decide +kernel
theorem d_B_uses_19 : decode c_B_uses 19 = .ok (.goto 4, 3) := by decide +kernel
theorem d_B_uses_22 : decode c_B_uses 22 = .ok (.iconst 0, 1) := by decide +kernel
theorem d_B_uses_23 : decode c_B_uses 23 = .ok (.ireturn, 1) := by decide +kernel
theorem d_B_runs_0 : decode c_B_runs 0 = .ok (.iload_n 1, 1) := by decide +kernel
theorem d_B_runs_1 : decode c_B_runs 1 = .ok (.invokestatic 46, 3) := by decide +kernel
theorem d_B_runs_4 : decode c_B_runs 4 = .ok (.ifCond .eq 15, 3) := by decide +kernel
theorem d_B_runs_7 : decode c_B_runs 7 = .ok (.aload_n 0, 1) := by decide +kernel
theorem d_B_runs_8 : decode c_B_runs 8 = .ok (.getfield 11, 3) := by decide +kernel
theorem d_B_runs_11 : decode c_B_runs 11 = .ok (.iload_n 1, 1) := by decide +kernel
theorem d_B_runs_12 : decode c_B_runs 12 = .ok (.aaload, 1) := by decide +kernel
theorem d_B_runs_13 : decode c_B_runs 13 = .ok (.getfield 103, 3) := by decide +kernel
theorem d_B_runs_16 : decode c_B_runs 16 = .ok (.goto 4, 3) := by decide +kernel
theorem d_B_runs_19 : decode c_B_runs 19 = .ok (.iconst 0, 1) := by decide +kernel
theorem d_B_runs_20 : decode c_B_runs 20 = .ok (.ireturn, 1) := by decide +kernel
theorem d_B_steps_0 : decode c_B_steps 0 = .ok (.aload_n 0, 1) := by decide +kernel
theorem d_B_steps_1 : decode c_B_steps 1 = .ok (.getfield 26, 3) := by decide +kernel
theorem d_B_steps_4 : decode c_B_steps 4 = .ok (.getfield 106, 3) := by decide +kernel
theorem d_B_steps_7 : decode c_B_steps 7 = .ok (.ireturn, 1) := by decide +kernel
theorem d_Mo_init_0 : decode c_Mo_init 0 = .ok (.aload_n 0, 1) := by decide +kernel
theorem d_Mo_init_1 : decode c_Mo_init 1 = .ok (.invokespecial 1, 3) := by decide +kernel
theorem d_Mo_init_4 : decode c_Mo_init 4 = .ok (.aload_n 0, 1) := by decide +kernel
theorem d_Mo_init_5 : decode c_Mo_init 5 = .ok (.bipush 24, 2) := by decide +kernel
theorem d_Mo_init_7 : decode c_Mo_init 7 = .ok (.newarray .char, 2) := by decide +kernel
theorem d_Mo_init_9 : decode c_Mo_init 9 = .ok (.putfield 7, 3) := by decide +kernel
theorem d_Mo_init_12 : decode c_Mo_init 12 = .ok (.aload_n 0, 1) := by decide +kernel
theorem d_Mo_init_13 : decode c_Mo_init 13 = .ok (.sipush 240, 3) := by decide +kernel
theorem d_Mo_init_16 : decode c_Mo_init 16 = .ok (.newarray .char, 2) := by decide +kernel
theorem d_Mo_init_18 : decode c_Mo_init 18 = .ok (.putfield 13, 3) := by decide +kernel
theorem d_Mo_init_21 : decode c_Mo_init 21 = .ok (.aload_n 0, 1) := by decide +kernel
theorem d_Mo_init_22 : decode c_Mo_init 22 = .ok (.bipush 10, 2) := by decide +kernel
theorem d_Mo_init_24 : decode c_Mo_init 24 = .ok (.newarray .int, 2) := by decide +kernel
theorem d_Mo_init_26 : decode c_Mo_init 26 = .ok (.putfield 16, 3) := by decide +kernel
theorem d_Mo_init_29 : decode c_Mo_init 29 = .ok (.aload_n 0, 1) := by decide +kernel
theorem d_Mo_init_30 : decode c_Mo_init 30 = .ok (.bipush 10, 2) := by decide +kernel
theorem d_Mo_init_32 : decode c_Mo_init 32 = .ok (.newarray .int, 2) := by decide +kernel
theorem d_Mo_init_34 : decode c_Mo_init 34 = .ok (.putfield 20, 3) := by decide +kernel
theorem d_Mo_init_37 : decode c_Mo_init 37 = .ok (.aload_n 0, 1) := by decide +kernel
theorem d_Mo_init_38 : decode c_Mo_init 38 = .ok (.sipush 240, 3) := by decide +kernel
theorem d_Mo_init_41 : decode c_Mo_init 41 = .ok (.newarray .int, 2) := by decide +kernel
theorem d_Mo_init_43 : decode c_Mo_init 43 = .ok (.putfield 23, 3) := by decide +kernel
theorem d_Mo_init_46 : decode c_Mo_init 46 = .ok (.aload_n 0, 1) := by decide +kernel
theorem d_Mo_init_47 : decode c_Mo_init 47 = .ok (.sipush 240, 3) := by decide +kernel
theorem d_Mo_init_50 : decode c_Mo_init 50 = .ok (.newarray .boolean, 2) := by decide +kernel
theorem d_Mo_init_52 : decode c_Mo_init 52 = .ok (.putfield 26, 3) := by decide +kernel
theorem d_Mo_init_55 : decode c_Mo_init 55 = .ok (.aload_n 0, 1) := by decide +kernel
theorem d_Mo_init_56 : decode c_Mo_init 56 = .ok (.bipush 10, 2) := by decide +kernel
theorem d_Mo_init_58 : decode c_Mo_init 58 = .ok (.newarray .boolean, 2) := by decide +kernel
theorem d_Mo_init_60 : decode c_Mo_init 60 = .ok (.putfield 30, 3) := by decide +kernel
theorem d_Mo_init_63 : decode c_Mo_init 63 = .ok (.aload_n 0, 1) := by decide +kernel
theorem d_Mo_init_64 : decode c_Mo_init 64 = .ok (.bipush 10, 2) := by decide +kernel
theorem d_Mo_init_66 : decode c_Mo_init 66 = .ok (.newarray .int, 2) := by decide +kernel
theorem d_Mo_init_68 : decode c_Mo_init 68 = .ok (.putfield 33, 3) := by decide +kernel
theorem d_Mo_init_71 : decode c_Mo_init 71 = .ok (.aload_n 0, 1) := by decide +kernel
theorem d_Mo_init_72 : decode c_Mo_init 72 = .ok (.bipush 10, 2) := by decide +kernel
theorem d_Mo_init_74 : decode c_Mo_init 74 = .ok (.newarray .boolean, 2) := by decide +kernel
theorem d_Mo_init_76 : decode c_Mo_init 76 = .ok (.putfield 36, 3) := by decide +kernel
theorem d_Mo_init_79 : decode c_Mo_init 79 = .ok (.aload_n 0, 1) := by decide +kernel
theorem d_Mo_init_80 : decode c_Mo_init 80 = .ok (.bipush 10, 2) := by decide +kernel
theorem d_Mo_init_82 : decode c_Mo_init 82 = .ok (.newarray .int, 2) := by decide +kernel
theorem d_Mo_init_84 : decode c_Mo_init 84 = .ok (.putfield 39, 3) := by decide +kernel
theorem d_Mo_init_87 : decode c_Mo_init 87 = .ok (.aload_n 0, 1) := by decide +kernel
theorem d_Mo_init_88 : decode c_Mo_init 88 = .ok (.bipush 10, 2) := by decide +kernel
theorem d_Mo_init_90 : decode c_Mo_init 90 = .ok (.newarray .int, 2) := by decide +kernel
theorem d_Mo_init_92 : decode c_Mo_init 92 = .ok (.putfield 42, 3) := by decide +kernel
theorem d_Mo_init_95 : decode c_Mo_init 95 = .ok (.aload_n 0, 1) := by decide +kernel
theorem d_Mo_init_96 : decode c_Mo_init 96 = .ok (.bipush 10, 2) := by decide +kernel
theorem d_Mo_init_98 : decode c_Mo_init 98 = .ok (.newarray .int, 2) := by decide +kernel
theorem d_Mo_init_100 : decode c_Mo_init 100 = .ok (.putfield 45, 3) := by decide +kernel
theorem d_Mo_init_103 : decode c_Mo_init 103 = .ok (.aload_n 0, 1) := by decide +kernel
theorem d_Mo_init_104 : decode c_Mo_init 104 = .ok (.bipush 10, 2) := by decide +kernel
theorem d_Mo_init_106 : decode c_Mo_init 106 = .ok (.newarray .int, 2) := by decide +kernel
theorem d_Mo_init_108 : decode c_Mo_init 108 = .ok (.putfield 48, 3) := by decide +kernel
theorem d_Mo_init_111 : decode c_Mo_init 111 = .ok (.aload_n 0, 1) := by decide +kernel
theorem d_Mo_init_112 : decode c_Mo_init 112 = .ok (.sipush 160, 3) := by decide +kernel
theorem d_Mo_init_115 : decode c_Mo_init 115 = .ok (.newarray .int, 2) := by decide +kernel
theorem d_Mo_init_117 : decode c_Mo_init 117 = .ok (.putfield 51, 3) := by decide +kernel
theorem d_Mo_init_120 : decode c_Mo_init 120 = .ok (.aload_n 0, 1) := by decide +kernel
theorem d_Mo_init_121 : decode c_Mo_init 121 = .ok (.bipush 6, 2) := by decide +kernel
theorem d_Mo_init_123 : decode c_Mo_init 123 = .ok (.newarray .int, 2) := by decide +kernel
theorem d_Mo_init_125 : decode c_Mo_init 125 = .ok (.putfield 54, 3) := by decide +kernel
theorem d_Mo_init_128 : decode c_Mo_init 128 = .ok (.aload_n 0, 1) := by decide +kernel
theorem d_Mo_init_129 : decode c_Mo_init 129 = .ok (.bipush 30, 2) := by decide +kernel
theorem d_Mo_init_131 : decode c_Mo_init 131 = .ok (.newarray .int, 2) := by decide +kernel
theorem d_Mo_init_133 : decode c_Mo_init 133 = .ok (.putfield 57, 3) := by decide +kernel
theorem d_Mo_init_136 : decode c_Mo_init 136 = .ok (.aload_n 0, 1) := by decide +kernel
theorem d_Mo_init_137 : decode c_Mo_init 137 = .ok (.sipush 320, 3) := by decide +kernel
theorem d_Mo_init_140 : decode c_Mo_init 140 = .ok (.newarray .int, 2) := by decide +kernel
theorem d_Mo_init_142 : decode c_Mo_init 142 = .ok (.putfield 60, 3) := by decide +kernel
theorem d_Mo_init_145 : decode c_Mo_init 145 = .ok (.aload_n 0, 1) := by decide +kernel
theorem d_Mo_init_146 : decode c_Mo_init 146 = .ok (.sipush 320, 3) := by decide +kernel
theorem d_Mo_init_149 : decode c_Mo_init 149 = .ok (.newarray .int, 2) := by decide +kernel
theorem d_Mo_init_151 : decode c_Mo_init 151 = .ok (.putfield 63, 3) := by decide +kernel
theorem d_Mo_init_154 : decode c_Mo_init 154 = .ok (.aload_n 0, 1) := by decide +kernel
theorem d_Mo_init_155 : decode c_Mo_init 155 = .ok (.sipush 320, 3) := by decide +kernel
theorem d_Mo_init_158 : decode c_Mo_init 158 = .ok (.newarray .int, 2) := by decide +kernel
theorem d_Mo_init_160 : decode c_Mo_init 160 = .ok (.putfield 66, 3) := by decide +kernel
theorem d_Mo_init_163 : decode c_Mo_init 163 = .ok (.aload_n 0, 1) := by decide +kernel
theorem d_Mo_init_164 : decode c_Mo_init 164 = .ok (.sipush 320, 3) := by decide +kernel
theorem d_Mo_init_167 : decode c_Mo_init 167 = .ok (.newarray .int, 2) := by decide +kernel
theorem d_Mo_init_169 : decode c_Mo_init 169 = .ok (.putfield 69, 3) := by decide +kernel
theorem d_Mo_init_172 : decode c_Mo_init 172 = .ok (.aload_n 0, 1) := by decide +kernel
theorem d_Mo_init_173 : decode c_Mo_init 173 = .ok (.bipush 36, 2) := by decide +kernel
theorem d_Mo_init_175 : decode c_Mo_init 175 = .ok (.newarray .int, 2) := by decide +kernel
theorem d_Mo_init_177 : decode c_Mo_init 177 = .ok (.putfield 72, 3) := by decide +kernel
theorem d_Mo_init_180 : decode c_Mo_init 180 = .ok (.iconst 0, 1) := by decide +kernel
theorem d_Mo_init_181 : decode c_Mo_init 181 = .ok (.istore_n 1, 1) := by decide +kernel
theorem d_Mo_init_182 : decode c_Mo_init 182 = .ok (.iload_n 1, 1) := by decide +kernel
theorem d_Mo_init_183 : decode c_Mo_init 183 = .ok (.bipush 10, 2) := by decide +kernel
theorem d_Mo_init_185 : decode c_Mo_init 185 = .ok (.if_icmp .ge 16, 3) := by decide +kernel
theorem d_Mo_init_188 : decode c_Mo_init 188 = .ok (.aload_n 0, 1) := by decide +kernel
theorem d_Mo_init_189 : decode c_Mo_init 189 = .ok (.getfield 20, 3) := by decide +kernel
theorem d_Mo_init_192 : decode c_Mo_init 192 = .ok (.iload_n 1, 1) := by decide +kernel
theorem d_Mo_init_193 : decode c_Mo_init 193 = .ok (.iconst (-1), 1) := by decide +kernel
theorem d_Mo_init_194 : decode c_Mo_init 194 = .ok (.iastore, 1) := by decide +kernel
theorem d_Mo_init_195 : decode c_Mo_init 195 = .ok (.iinc 1 1, 3) := by decide +kernel
theorem d_Mo_init_198 : decode c_Mo_init 198 = .ok (.goto (-16), 3) := by decide +kernel
theorem d_Mo_init_201 : decode c_Mo_init 201 = .ok (.return_, 1) := by decide +kernel
theorem d_Mo_type_0 : decode c_Mo_type 0 = .ok (.iload_n 3, 1) := by decide +kernel
theorem d_Mo_type_1 : decode c_Mo_type 1 = .ok (.iconst 1, 1) := by decide +kernel
theorem d_Mo_type_2 : decode c_Mo_type 2 = .ok (.if_icmp .lt 20, 3) := by decide +kernel
theorem d_Mo_type_5 : decode c_Mo_type 5 = .ok (.iload_n 3, 1) := by decide +kernel
theorem d_Mo_type_6 : decode c_Mo_type 6 = .ok (.bipush 8, 2) := by decide +kernel
theorem d_Mo_type_8 : decode c_Mo_type 8 = .ok (.if_icmp .gt 14, 3) := by decide +kernel
theorem d_Mo_type_11 : decode c_Mo_type 11 = .ok (.aload_n 0, 1) := by decide +kernel
theorem d_Mo_type_12 : decode c_Mo_type 12 = .ok (.getfield 75, 3) := by decide +kernel
theorem d_Mo_type_15 : decode c_Mo_type 15 = .ok (.iload_n 3, 1) := by decide +kernel
theorem d_Mo_type_16 : decode c_Mo_type 16 = .ok (.iadd, 1) := by decide +kernel
theorem d_Mo_type_17 : decode c_Mo_type 17 = .ok (.bipush 24, 2) := by decide +kernel
theorem d_Mo_type_19 : decode c_Mo_type 19 = .ok (.if_icmp .le 5, 3) := by decide +kernel
theorem d_Mo_type_22 : decode c_Mo_type 22 = .ok (.iconst (-1), 1) := by decide +kernel
theorem d_Mo_type_23 : decode c_Mo_type 23 = .ok (.ireturn, 1) := by decide +kernel
theorem d_Mo_type_24 : decode c_Mo_type 24 = .ok (.iconst 0, 1) := by decide +kernel
theorem d_Mo_type_25 : decode c_Mo_type 25 = .ok (.istore 4, 2) := by decide +kernel
theorem d_Mo_type_27 : decode c_Mo_type 27 = .ok (.iload 4, 2) := by decide +kernel
theorem d_Mo_type_29 : decode c_Mo_type 29 = .ok (.iload_n 3, 1) := by decide +kernel
theorem d_Mo_type_30 : decode c_Mo_type 30 = .ok (.if_icmp .ge 42, 3) := by decide +kernel
theorem d_Mo_type_33 : decode c_Mo_type 33 = .ok (.lload_n 1, 1) := by decide +kernel
theorem d_Mo_type_34 : decode c_Mo_type 34 = .ok (.bipush 8, 2) := by decide +kernel
theorem d_Mo_type_36 : decode c_Mo_type 36 = .ok (.iload 4, 2) := by decide +kernel
theorem d_Mo_type_38 : decode c_Mo_type 38 = .ok (.imul, 1) := by decide +kernel
theorem d_Mo_type_39 : decode c_Mo_type 39 = .ok (.lshr, 1) := by decide +kernel
theorem d_Mo_type_40 : decode c_Mo_type 40 = .ok (.ldc2_w 79, 3) := by decide +kernel
theorem d_Mo_type_43 : decode c_Mo_type 43 = .ok (.land, 1) := by decide +kernel
theorem d_Mo_type_44 : decode c_Mo_type 44 = .ok (.lstore 5, 2) := by decide +kernel
theorem d_Mo_type_46 : decode c_Mo_type 46 = .ok (.lload 5, 2) := by decide +kernel
theorem d_Mo_type_48 : decode c_Mo_type 48 = .ok (.ldc2_w 81, 3) := by decide +kernel
theorem d_Mo_type_51 : decode c_Mo_type 51 = .ok (.lcmp, 1) := by decide +kernel
theorem d_Mo_type_52 : decode c_Mo_type 52 = .ok (.ifCond .lt 12, 3) := by decide +kernel
theorem d_Mo_type_55 : decode c_Mo_type 55 = .ok (.lload 5, 2) := by decide +kernel
theorem d_Mo_type_57 : decode c_Mo_type 57 = .ok (.ldc2_w 83, 3) := by decide +kernel
theorem d_Mo_type_60 : decode c_Mo_type 60 = .ok (.lcmp, 1) := by decide +kernel
theorem d_Mo_type_61 : decode c_Mo_type 61 = .ok (.ifCond .le 5, 3) := by decide +kernel
theorem d_Mo_type_64 : decode c_Mo_type 64 = .ok (.iconst (-1), 1) := by decide +kernel
theorem d_Mo_type_65 : decode c_Mo_type 65 = .ok (.ireturn, 1) := by decide +kernel
theorem d_Mo_type_66 : decode c_Mo_type 66 = .ok (.iinc 4 1, 3) := by decide +kernel
theorem d_Mo_type_69 : decode c_Mo_type 69 = .ok (.goto (-42), 3) := by decide +kernel
theorem d_Mo_type_72 : decode c_Mo_type 72 = .ok (.iconst 0, 1) := by decide +kernel
theorem d_Mo_type_73 : decode c_Mo_type 73 = .ok (.istore 4, 2) := by decide +kernel
theorem d_Mo_type_75 : decode c_Mo_type 75 = .ok (.iload 4, 2) := by decide +kernel
theorem d_Mo_type_77 : decode c_Mo_type 77 = .ok (.iload_n 3, 1) := by decide +kernel
theorem d_Mo_type_78 : decode c_Mo_type 78 = .ok (.if_icmp .ge 41, 3) := by decide +kernel
theorem d_Mo_type_81 : decode c_Mo_type 81 = .ok (.aload_n 0, 1) := by decide +kernel
theorem d_Mo_type_82 : decode c_Mo_type 82 = .ok (.getfield 7, 3) := by decide +kernel
theorem d_Mo_type_85 : decode c_Mo_type 85 = .ok (.aload_n 0, 1) := by decide +kernel
theorem d_Mo_type_86 : decode c_Mo_type 86 = .ok (.getfield 75, 3) := by decide +kernel
theorem d_Mo_type_89 : decode c_Mo_type 89 = .ok (.lload_n 1, 1) := by decide +kernel
theorem d_Mo_type_90 : decode c_Mo_type 90 = .ok (.bipush 8, 2) := by decide +kernel
theorem d_Mo_type_92 : decode c_Mo_type 92 = .ok (.iload 4, 2) := by decide +kernel
theorem d_Mo_type_94 : decode c_Mo_type 94 = .ok (.imul, 1) := by decide +kernel
theorem d_Mo_type_95 : decode c_Mo_type 95 = .ok (.lshr, 1) := by decide +kernel
theorem d_Mo_type_96 : decode c_Mo_type 96 = .ok (.ldc2_w 79, 3) := by decide +kernel
theorem d_Mo_type_99 : decode c_Mo_type 99 = .ok (.land, 1) := by decide +kernel
theorem d_Mo_type_100 : decode c_Mo_type 100 = .ok (.l2i, 1) := by decide +kernel
theorem d_Mo_type_101 : decode c_Mo_type 101 = .ok (.i2c, 1) := by decide +kernel
theorem d_Mo_type_102 : decode c_Mo_type 102 = .ok (.castore, 1) := by decide +kernel
theorem d_Mo_type_103 : decode c_Mo_type 103 = .ok (.aload_n 0, 1) := by decide +kernel
theorem d_Mo_type_104 : decode c_Mo_type 104 = .ok (.dup, 1) := by decide +kernel
theorem d_Mo_type_105 : decode c_Mo_type 105 = .ok (.getfield 75, 3) := by decide +kernel
theorem d_Mo_type_108 : decode c_Mo_type 108 = .ok (.iconst 1, 1) := by decide +kernel
theorem d_Mo_type_109 : decode c_Mo_type 109 = .ok (.iadd, 1) := by decide +kernel
theorem d_Mo_type_110 : decode c_Mo_type 110 = .ok (.putfield 75, 3) := by decide +kernel
theorem d_Mo_type_113 : decode c_Mo_type 113 = .ok (.iinc 4 1, 3) := by decide +kernel
theorem d_Mo_type_116 : decode c_Mo_type 116 = .ok (.goto (-41), 3) := by decide +kernel
theorem d_Mo_type_119 : decode c_Mo_type 119 = .ok (.aload_n 0, 1) := by decide +kernel
theorem d_Mo_type_120 : decode c_Mo_type 120 = .ok (.getfield 75, 3) := by decide +kernel
theorem d_Mo_type_123 : decode c_Mo_type 123 = .ok (.ireturn, 1) := by decide +kernel
theorem d_Mo_set_0 : decode c_Mo_set 0 = .ok (.iload_n 1, 1) := by decide +kernel
theorem d_Mo_set_1 : decode c_Mo_set 1 = .ok (.invokestatic 138, 3) := by decide +kernel
theorem d_Mo_set_4 : decode c_Mo_set 4 = .ok (.ifCond .eq 20, 3) := by decide +kernel
theorem d_Mo_set_7 : decode c_Mo_set 7 = .ok (.iload_n 2, 1) := by decide +kernel
theorem d_Mo_set_8 : decode c_Mo_set 8 = .ok (.ifCond .lt 16, 3) := by decide +kernel
theorem d_Mo_set_11 : decode c_Mo_set 11 = .ok (.iload_n 2, 1) := by decide +kernel
theorem d_Mo_set_12 : decode c_Mo_set 12 = .ok (.bipush 9, 2) := by decide +kernel
theorem d_Mo_set_14 : decode c_Mo_set 14 = .ok (.if_icmp .gt 10, 3) := by decide +kernel
theorem d_Mo_set_17 : decode c_Mo_set 17 = .ok (.aload_n 0, 1) := by decide +kernel
theorem d_Mo_set_18 : decode c_Mo_set 18 = .ok (.getfield 75, 3) := by decide +kernel
theorem d_Mo_set_21 : decode c_Mo_set 21 = .ok (.ifCond .ne 5, 3) := by decide +kernel
theorem d_Mo_set_24 : decode c_Mo_set 24 = .ok (.iconst 0, 1) := by decide +kernel
theorem d_Mo_set_25 : decode c_Mo_set 25 = .ok (.ireturn, 1) := by decide +kernel
theorem d_Mo_set_26 : decode c_Mo_set 26 = .ok (.aload_n 0, 1) := by decide +kernel
theorem d_Mo_set_27 : decode c_Mo_set 27 = .ok (.getfield 20, 3) := by decide +kernel
theorem d_Mo_set_30 : decode c_Mo_set 30 = .ok (.iload_n 1, 1) := by decide +kernel
theorem d_Mo_set_31 : decode c_Mo_set 31 = .ok (.iaload, 1) := by decide +kernel
theorem d_Mo_set_32 : decode c_Mo_set 32 = .ok (.istore_n 3, 1) := by decide +kernel
theorem d_Mo_set_33 : decode c_Mo_set 33 = .ok (.aload_n 0, 1) := by decide +kernel
theorem d_Mo_set_34 : decode c_Mo_set 34 = .ok (.getfield 16, 3) := by decide +kernel
theorem d_Mo_set_37 : decode c_Mo_set 37 = .ok (.iload_n 1, 1) := by decide +kernel
theorem d_Mo_set_38 : decode c_Mo_set 38 = .ok (.aload_n 0, 1) := by decide +kernel
theorem d_Mo_set_39 : decode c_Mo_set 39 = .ok (.getfield 75, 3) := by decide +kernel
theorem d_Mo_set_42 : decode c_Mo_set 42 = .ok (.iastore, 1) := by decide +kernel
theorem d_Mo_set_43 : decode c_Mo_set 43 = .ok (.iconst 0, 1) := by decide +kernel
theorem d_Mo_set_44 : decode c_Mo_set 44 = .ok (.istore 4, 2) := by decide +kernel
theorem d_Mo_set_46 : decode c_Mo_set 46 = .ok (.iload 4, 2) := by decide +kernel
theorem d_Mo_set_48 : decode c_Mo_set 48 = .ok (.aload_n 0, 1) := by decide +kernel
theorem d_Mo_set_49 : decode c_Mo_set 49 = .ok (.getfield 75, 3) := by decide +kernel
theorem d_Mo_set_52 : decode c_Mo_set 52 = .ok (.if_icmp .ge 28, 3) := by decide +kernel
theorem d_Mo_set_55 : decode c_Mo_set 55 = .ok (.aload_n 0, 1) := by decide +kernel
theorem d_Mo_set_56 : decode c_Mo_set 56 = .ok (.getfield 13, 3) := by decide +kernel
theorem d_Mo_set_59 : decode c_Mo_set 59 = .ok (.bipush 24, 2) := by decide +kernel
theorem d_Mo_set_61 : decode c_Mo_set 61 = .ok (.iload_n 1, 1) := by decide +kernel
theorem d_Mo_set_62 : decode c_Mo_set 62 = .ok (.imul, 1) := by decide +kernel
theorem d_Mo_set_63 : decode c_Mo_set 63 = .ok (.iload 4, 2) := by decide +kernel
theorem d_Mo_set_65 : decode c_Mo_set 65 = .ok (.iadd, 1) := by decide +kernel
theorem d_Mo_set_66 : decode c_Mo_set 66 = .ok (.aload_n 0, 1) := by decide +kernel
theorem d_Mo_set_67 : decode c_Mo_set 67 = .ok (.getfield 7, 3) := by decide +kernel
theorem d_Mo_set_70 : decode c_Mo_set 70 = .ok (.iload 4, 2) := by decide +kernel
theorem d_Mo_set_72 : decode c_Mo_set 72 = .ok (.caload, 1) := by decide +kernel
theorem d_Mo_set_73 : decode c_Mo_set 73 = .ok (.castore, 1) := by decide +kernel
theorem d_Mo_set_74 : decode c_Mo_set 74 = .ok (.iinc 4 1, 3) := by decide +kernel
theorem d_Mo_set_77 : decode c_Mo_set 77 = .ok (.goto (-31), 3) := by decide +kernel
theorem d_Mo_set_80 : decode c_Mo_set 80 = .ok (.aload_n 0, 1) := by decide +kernel
theorem d_Mo_set_81 : decode c_Mo_set 81 = .ok (.iconst 0, 1) := by decide +kernel
theorem d_Mo_set_82 : decode c_Mo_set 82 = .ok (.putfield 75, 3) := by decide +kernel
theorem d_Mo_set_85 : decode c_Mo_set 85 = .ok (.aload_n 0, 1) := by decide +kernel
theorem d_Mo_set_86 : decode c_Mo_set 86 = .ok (.getfield 20, 3) := by decide +kernel
theorem d_Mo_set_89 : decode c_Mo_set 89 = .ok (.iload_n 1, 1) := by decide +kernel
theorem d_Mo_set_90 : decode c_Mo_set 90 = .ok (.iload_n 2, 1) := by decide +kernel
theorem d_Mo_set_91 : decode c_Mo_set 91 = .ok (.iastore, 1) := by decide +kernel
theorem d_Mo_set_92 : decode c_Mo_set 92 = .ok (.aload_n 0, 1) := by decide +kernel
theorem d_Mo_set_93 : decode c_Mo_set 93 = .ok (.getfield 30, 3) := by decide +kernel
theorem d_Mo_set_96 : decode c_Mo_set 96 = .ok (.iload_n 1, 1) := by decide +kernel
theorem d_Mo_set_97 : decode c_Mo_set 97 = .ok (.aload_n 0, 1) := by decide +kernel
theorem d_Mo_set_98 : decode c_Mo_set 98 = .ok (.iload_n 1, 1) := by decide +kernel
theorem d_Mo_set_99 : decode c_Mo_set 99 = .ok (.invokevirtual 141, 3) := by decide +kernel
theorem d_Mo_set_102 : decode c_Mo_set 102 = .ok (.bastore, 1) := by decide +kernel
theorem d_Mo_set_103 : decode c_Mo_set 103 = .ok (.aload_n 0, 1) := by decide +kernel
theorem d_Mo_set_104 : decode c_Mo_set 104 = .ok (.getfield 33, 3) := by decide +kernel
theorem d_Mo_set_107 : decode c_Mo_set 107 = .ok (.iload_n 1, 1) := by decide +kernel
theorem d_Mo_set_108 : decode c_Mo_set 108 = .ok (.aload_n 0, 1) := by decide +kernel
theorem d_Mo_set_109 : decode c_Mo_set 109 = .ok (.getfield 30, 3) := by decide +kernel
theorem d_Mo_set_112 : decode c_Mo_set 112 = .ok (.iload_n 1, 1) := by decide +kernel
theorem d_Mo_set_113 : decode c_Mo_set 113 = .ok (.baload, 1) := by decide +kernel
theorem d_Mo_set_114 : decode c_Mo_set 114 = .ok (.ifCond .eq 12, 3) := by decide +kernel
theorem d_Mo_set_117 : decode c_Mo_set 117 = .ok (.aload_n 0, 1) := by decide +kernel
theorem d_Mo_set_118 : decode c_Mo_set 118 = .ok (.getfield 33, 3) := by decide +kernel
theorem d_Mo_set_121 : decode c_Mo_set 121 = .ok (.iload_n 1, 1) := by decide +kernel
theorem d_Mo_set_122 : decode c_Mo_set 122 = .ok (.iaload, 1) := by decide +kernel
theorem d_Mo_set_123 : decode c_Mo_set 123 = .ok (.goto 4, 3) := by decide +kernel
theorem d_Mo_set_126 : decode c_Mo_set 126 = .ok (.iconst 0, 1) := by decide +kernel
theorem d_Mo_set_127 : decode c_Mo_set 127 = .ok (.iastore, 1) := by decide +kernel
theorem d_Mo_set_128 : decode c_Mo_set 128 = .ok (.aload_n 0, 1) := by decide +kernel
theorem d_Mo_set_129 : decode c_Mo_set 129 = .ok (.getfield 30, 3) := by decide +kernel
theorem d_Mo_set_132 : decode c_Mo_set 132 = .ok (.iload_n 1, 1) := by decide +kernel
theorem d_Mo_set_133 : decode c_Mo_set 133 = .ok (.baload, 1) := by decide +kernel
theorem d_Mo_set_134 : decode c_Mo_set 134 = .ok (.ifCond .eq 8, 3) := by decide +kernel
theorem d_Mo_set_137 : decode c_Mo_set 137 = .ok (.aload_n 0, 1) := by decide +kernel
theorem d_Mo_set_138 : decode c_Mo_set 138 = .ok (.iload_n 1, 1) := by decide +kernel
theorem d_Mo_set_139 : decode c_Mo_set 139 = .ok (.invokevirtual 144, 3) := by decide +kernel
theorem d_Mo_set_142 : decode c_Mo_set 142 = .ok (.aload_n 0, 1) := by decide +kernel
theorem d_Mo_set_143 : decode c_Mo_set 143 = .ok (.iload_n 1, 1) := by decide +kernel
theorem d_Mo_set_144 : decode c_Mo_set 144 = .ok (.iload_n 3, 1) := by decide +kernel
theorem d_Mo_set_145 : decode c_Mo_set 145 = .ok (.invokevirtual 147, 3) := by decide +kernel
theorem d_Mo_set_148 : decode c_Mo_set 148 = .ok (.iconst 1, 1) := by decide +kernel
theorem d_Mo_set_149 : decode c_Mo_set 149 = .ok (.ireturn, 1) := by decide +kernel
theorem d_Mo_isCell_0 : decode c_Mo_isCell 0 = .ok (.iload_n 0, 1) := by decide +kernel
theorem d_Mo_isCell_1 : decode c_Mo_isCell 1 = .ok (.ifCond .lt 13, 3) := by decide +kernel
theorem d_Mo_isCell_4 : decode c_Mo_isCell 4 = .ok (.iload_n 0, 1) := by decide +kernel
theorem d_Mo_isCell_5 : decode c_Mo_isCell 5 = .ok (.bipush 9, 2) := by decide +kernel
theorem d_Mo_isCell_7 : decode c_Mo_isCell 7 = .ok (.if_icmp .gt 7, 3) := by decide +kernel
theorem d_Mo_isCell_10 : decode c_Mo_isCell 10 = .ok (.iconst 1, 1) := by decide +kernel
theorem d_Mo_isCell_11 : decode c_Mo_isCell 11 = .ok (.goto 4, 3) := by decide +kernel
theorem d_Mo_isCell_14 : decode c_Mo_isCell 14 = .ok (.iconst 0, 1) := by decide +kernel
theorem d_Mo_isCell_15 : decode c_Mo_isCell 15 = .ok (.ireturn, 1) := by decide +kernel
theorem d_Mo_reads_0 : decode c_Mo_reads 0 = .ok (.iconst 0, 1) := by decide +kernel
theorem d_Mo_reads_1 : decode c_Mo_reads 1 = .ok (.istore_n 2, 1) := by decide +kernel
end
section
theorem d_Mo_reads_2 : decode c_Mo_reads 2 = .ok (.iload_n 2, 1) := by decide +kernel
theorem d_Mo_reads_3 : decode c_Mo_reads 3 = .ok (.bipush 24, 2) := by decide +kernel
theorem d_Mo_reads_5 : decode c_Mo_reads 5 = .ok (.if_icmp .ge 21, 3) := by decide +kernel
theorem d_Mo_reads_8 : decode c_Mo_reads 8 = .ok (.aload_n 0, 1) := by decide +kernel
theorem d_Mo_reads_9 : decode c_Mo_reads 9 = .ok (.getfield 26, 3) := by decide +kernel
theorem d_Mo_reads_12 : decode c_Mo_reads 12 = .ok (.bipush 24, 2) := by decide +kernel
theorem d_Mo_reads_14 : decode c_Mo_reads 14 = .ok (.iload_n 1, 1) := by decide +kernel
theorem d_Mo_reads_15 : decode c_Mo_reads 15 = .ok (.imul, 1) := by decide +kernel
theorem d_Mo_reads_16 : decode c_Mo_reads 16 = .ok (.iload_n 2, 1) := by decide +kernel
theorem d_Mo_reads_17 : decode c_Mo_reads 17 = .ok (.iadd, 1) := by decide +kernel
theorem d_Mo_reads_18 : decode c_Mo_reads 18 = .ok (.iconst 0, 1) := by decide +kernel
theorem d_Mo_reads_19 : decode c_Mo_reads 19 = .ok (.bastore, 1) := by decide +kernel
theorem d_Mo_reads_20 : decode c_Mo_reads 20 = .ok (.iinc 2 1, 3) := by decide +kernel
theorem d_Mo_reads_23 : decode c_Mo_reads 23 = .ok (.goto (-21), 3) := by decide +kernel
theorem d_Mo_reads_26 : decode c_Mo_reads 26 = .ok (.iconst 0, 1) := by decide +kernel
theorem d_Mo_reads_27 : decode c_Mo_reads 27 = .ok (.istore_n 2, 1) := by decide +kernel
theorem d_Mo_reads_28 : decode c_Mo_reads 28 = .ok (.iload_n 2, 1) := by decide +kernel
theorem d_Mo_reads_29 : decode c_Mo_reads 29 = .ok (.bipush 6, 2) := by decide +kernel
theorem d_Mo_reads_31 : decode c_Mo_reads 31 = .ok (.if_icmp .ge 16, 3) := by decide +kernel
theorem d_Mo_reads_34 : decode c_Mo_reads 34 = .ok (.aload_n 0, 1) := by decide +kernel
theorem d_Mo_reads_35 : decode c_Mo_reads 35 = .ok (.getfield 54, 3) := by decide +kernel
theorem d_Mo_reads_38 : decode c_Mo_reads 38 = .ok (.iload_n 2, 1) := by decide +kernel
theorem d_Mo_reads_39 : decode c_Mo_reads 39 = .ok (.iconst 0, 1) := by decide +kernel
theorem d_Mo_reads_40 : decode c_Mo_reads 40 = .ok (.iastore, 1) := by decide +kernel
theorem d_Mo_reads_41 : decode c_Mo_reads 41 = .ok (.iinc 2 1, 3) := by decide +kernel
theorem d_Mo_reads_44 : decode c_Mo_reads 44 = .ok (.goto (-16), 3) := by decide +kernel
theorem d_Mo_reads_47 : decode c_Mo_reads 47 = .ok (.aload_n 0, 1) := by decide +kernel
theorem d_Mo_reads_48 : decode c_Mo_reads 48 = .ok (.getfield 33, 3) := by decide +kernel
theorem d_Mo_reads_51 : decode c_Mo_reads 51 = .ok (.iload_n 1, 1) := by decide +kernel
theorem d_Mo_reads_52 : decode c_Mo_reads 52 = .ok (.iconst 0, 1) := by decide +kernel
theorem d_Mo_reads_53 : decode c_Mo_reads 53 = .ok (.iastore, 1) := by decide +kernel
theorem d_Mo_reads_54 : decode c_Mo_reads 54 = .ok (.aload_n 0, 1) := by decide +kernel
theorem d_Mo_reads_55 : decode c_Mo_reads 55 = .ok (.iconst 0, 1) := by decide +kernel
theorem d_Mo_reads_56 : decode c_Mo_reads 56 = .ok (.putfield 85, 3) := by decide +kernel
theorem d_Mo_reads_59 : decode c_Mo_reads 59 = .ok (.aload_n 0, 1) := by decide +kernel
theorem d_Mo_reads_60 : decode c_Mo_reads 60 = .ok (.iconst 0, 1) := by decide +kernel
theorem d_Mo_reads_61 : decode c_Mo_reads 61 = .ok (.putfield 92, 3) := by decide +kernel
theorem d_Mo_reads_64 : decode c_Mo_reads 64 = .ok (.iconst 0, 1) := by decide +kernel
theorem d_Mo_reads_65 : decode c_Mo_reads 65 = .ok (.istore_n 2, 1) := by decide +kernel
theorem d_Mo_reads_66 : decode c_Mo_reads 66 = .ok (.aload_n 0, 1) := by decide +kernel
theorem d_Mo_reads_67 : decode c_Mo_reads 67 = .ok (.iload_n 1, 1) := by decide +kernel
theorem d_Mo_reads_68 : decode c_Mo_reads 68 = .ok (.iconst 0, 1) := by decide +kernel
theorem d_Mo_reads_69 : decode c_Mo_reads 69 = .ok (.invokevirtual 88, 3) := by decide +kernel
theorem d_Mo_reads_72 : decode c_Mo_reads 72 = .ok (.bipush 92, 2) := by decide +kernel
theorem d_Mo_reads_74 : decode c_Mo_reads 74 = .ok (.if_icmp .ne 37, 3) := by decide +kernel
theorem d_Mo_reads_77 : decode c_Mo_reads 77 = .ok (.aload_n 0, 1) := by decide +kernel
theorem d_Mo_reads_78 : decode c_Mo_reads 78 = .ok (.iload_n 1, 1) := by decide +kernel
theorem d_Mo_reads_79 : decode c_Mo_reads 79 = .ok (.iconst 1, 1) := by decide +kernel
theorem d_Mo_reads_80 : decode c_Mo_reads 80 = .ok (.invokevirtual 88, 3) := by decide +kernel
theorem d_Mo_reads_83 : decode c_Mo_reads 83 = .ok (.invokestatic 102, 3) := by decide +kernel
theorem d_Mo_reads_86 : decode c_Mo_reads 86 = .ok (.ifCond .ne 5, 3) := by decide +kernel
theorem d_Mo_reads_89 : decode c_Mo_reads 89 = .ok (.iconst 0, 1) := by decide +kernel
theorem d_Mo_reads_90 : decode c_Mo_reads 90 = .ok (.ireturn, 1) := by decide +kernel
theorem d_Mo_reads_91 : decode c_Mo_reads 91 = .ok (.aload_n 0, 1) := by decide +kernel
theorem d_Mo_reads_92 : decode c_Mo_reads 92 = .ok (.getfield 54, 3) := by decide +kernel
theorem d_Mo_reads_95 : decode c_Mo_reads 95 = .ok (.aload_n 0, 1) := by decide +kernel
theorem d_Mo_reads_96 : decode c_Mo_reads 96 = .ok (.iload_n 1, 1) := by decide +kernel
theorem d_Mo_reads_97 : decode c_Mo_reads 97 = .ok (.iconst 1, 1) := by decide +kernel
theorem d_Mo_reads_98 : decode c_Mo_reads 98 = .ok (.invokevirtual 88, 3) := by decide +kernel
theorem d_Mo_reads_101 : decode c_Mo_reads 101 = .ok (.bipush 107, 2) := by decide +kernel
theorem d_Mo_reads_103 : decode c_Mo_reads 103 = .ok (.isub, 1) := by decide +kernel
theorem d_Mo_reads_104 : decode c_Mo_reads 104 = .ok (.dup2, 1) := by decide +kernel
theorem d_Mo_reads_105 : decode c_Mo_reads 105 = .ok (.iaload, 1) := by decide +kernel
theorem d_Mo_reads_106 : decode c_Mo_reads 106 = .ok (.iconst 1, 1) := by decide +kernel
theorem d_Mo_reads_107 : decode c_Mo_reads 107 = .ok (.iadd, 1) := by decide +kernel
theorem d_Mo_reads_108 : decode c_Mo_reads 108 = .ok (.iastore, 1) := by decide +kernel
theorem d_Mo_reads_109 : decode c_Mo_reads 109 = .ok (.iconst 2, 1) := by decide +kernel
theorem d_Mo_reads_110 : decode c_Mo_reads 110 = .ok (.istore_n 2, 1) := by decide +kernel
theorem d_Mo_reads_111 : decode c_Mo_reads 111 = .ok (.aload_n 0, 1) := by decide +kernel
theorem d_Mo_reads_112 : decode c_Mo_reads 112 = .ok (.iconst 1, 1) := by decide +kernel
theorem d_Mo_reads_113 : decode c_Mo_reads 113 = .ok (.invokevirtual 105, 3) := by decide +kernel
theorem d_Mo_reads_116 : decode c_Mo_reads 116 = .ok (.aload_n 0, 1) := by decide +kernel
theorem d_Mo_reads_117 : decode c_Mo_reads 117 = .ok (.getfield 85, 3) := by decide +kernel
theorem d_Mo_reads_120 : decode c_Mo_reads 120 = .ok (.ifCond .le 164, 3) := by decide +kernel
theorem d_Mo_reads_123 : decode c_Mo_reads 123 = .ok (.iload_n 2, 1) := by decide +kernel
theorem d_Mo_reads_124 : decode c_Mo_reads 124 = .ok (.ifCond .lt 160, 3) := by decide +kernel
theorem d_Mo_reads_127 : decode c_Mo_reads 127 = .ok (.aload_n 0, 1) := by decide +kernel
theorem d_Mo_reads_128 : decode c_Mo_reads 128 = .ok (.dup, 1) := by decide +kernel
theorem d_Mo_reads_129 : decode c_Mo_reads 129 = .ok (.getfield 85, 3) := by decide +kernel
theorem d_Mo_reads_132 : decode c_Mo_reads 132 = .ok (.iconst 1, 1) := by decide +kernel
theorem d_Mo_reads_133 : decode c_Mo_reads 133 = .ok (.isub, 1) := by decide +kernel
theorem d_Mo_reads_134 : decode c_Mo_reads 134 = .ok (.putfield 85, 3) := by decide +kernel
theorem d_Mo_reads_137 : decode c_Mo_reads 137 = .ok (.aload_n 0, 1) := by decide +kernel
theorem d_Mo_reads_138 : decode c_Mo_reads 138 = .ok (.getfield 51, 3) := by decide +kernel
theorem d_Mo_reads_141 : decode c_Mo_reads 141 = .ok (.aload_n 0, 1) := by decide +kernel
theorem d_Mo_reads_142 : decode c_Mo_reads 142 = .ok (.getfield 85, 3) := by decide +kernel
theorem d_Mo_reads_145 : decode c_Mo_reads 145 = .ok (.iaload, 1) := by decide +kernel
theorem d_Mo_reads_146 : decode c_Mo_reads 146 = .ok (.istore_n 3, 1) := by decide +kernel
theorem d_Mo_reads_147 : decode c_Mo_reads 147 = .ok (.iload_n 3, 1) := by decide +kernel
theorem d_Mo_reads_148 : decode c_Mo_reads 148 = .ok (.bipush 20, 2) := by decide +kernel
theorem d_Mo_reads_150 : decode c_Mo_reads 150 = .ok (.if_icmp .lt 19, 3) := by decide +kernel
theorem d_Mo_reads_153 : decode c_Mo_reads 153 = .ok (.aload_n 0, 1) := by decide +kernel
theorem d_Mo_reads_154 : decode c_Mo_reads 154 = .ok (.getfield 54, 3) := by decide +kernel
theorem d_Mo_reads_157 : decode c_Mo_reads 157 = .ok (.iload_n 3, 1) := by decide +kernel
theorem d_Mo_reads_158 : decode c_Mo_reads 158 = .ok (.bipush 20, 2) := by decide +kernel
theorem d_Mo_reads_160 : decode c_Mo_reads 160 = .ok (.isub, 1) := by decide +kernel
theorem d_Mo_reads_161 : decode c_Mo_reads 161 = .ok (.dup2, 1) := by decide +kernel
theorem d_Mo_reads_162 : decode c_Mo_reads 162 = .ok (.iaload, 1) := by decide +kernel
theorem d_Mo_reads_163 : decode c_Mo_reads 163 = .ok (.iconst 1, 1) := by decide +kernel
theorem d_Mo_reads_164 : decode c_Mo_reads 164 = .ok (.isub, 1) := by decide +kernel
theorem d_Mo_reads_165 : decode c_Mo_reads 165 = .ok (.iastore, 1) := by decide +kernel
theorem d_Mo_reads_166 : decode c_Mo_reads 166 = .ok (.goto 115, 3) := by decide +kernel
theorem d_Mo_reads_169 : decode c_Mo_reads 169 = .ok (.iload_n 3, 1) := by decide +kernel
theorem d_Mo_reads_170 : decode c_Mo_reads 170 = .ok (.bipush 10, 2) := by decide +kernel
theorem d_Mo_reads_172 : decode c_Mo_reads 172 = .ok (.if_icmp .lt 19, 3) := by decide +kernel
theorem d_Mo_reads_175 : decode c_Mo_reads 175 = .ok (.aload_n 0, 1) := by decide +kernel
theorem d_Mo_reads_176 : decode c_Mo_reads 176 = .ok (.getfield 54, 3) := by decide +kernel
theorem d_Mo_reads_179 : decode c_Mo_reads 179 = .ok (.iload_n 3, 1) := by decide +kernel
theorem d_Mo_reads_180 : decode c_Mo_reads 180 = .ok (.bipush 10, 2) := by decide +kernel
theorem d_Mo_reads_182 : decode c_Mo_reads 182 = .ok (.isub, 1) := by decide +kernel
theorem d_Mo_reads_183 : decode c_Mo_reads 183 = .ok (.dup2, 1) := by decide +kernel
theorem d_Mo_reads_184 : decode c_Mo_reads 184 = .ok (.iaload, 1) := by decide +kernel
theorem d_Mo_reads_185 : decode c_Mo_reads 185 = .ok (.iconst 1, 1) := by decide +kernel
theorem d_Mo_reads_186 : decode c_Mo_reads 186 = .ok (.iadd, 1) := by decide +kernel
theorem d_Mo_reads_187 : decode c_Mo_reads 187 = .ok (.iastore, 1) := by decide +kernel
theorem d_Mo_reads_188 : decode c_Mo_reads 188 = .ok (.goto 93, 3) := by decide +kernel
theorem d_Mo_reads_191 : decode c_Mo_reads 191 = .ok (.iload_n 3, 1) := by decide +kernel
theorem d_Mo_reads_192 : decode c_Mo_reads 192 = .ok (.iconst 3, 1) := by decide +kernel
theorem d_Mo_reads_193 : decode c_Mo_reads 193 = .ok (.if_icmp .ne 16, 3) := by decide +kernel
theorem d_Mo_reads_196 : decode c_Mo_reads 196 = .ok (.aload_n 0, 1) := by decide +kernel
theorem d_Mo_reads_197 : decode c_Mo_reads 197 = .ok (.dup, 1) := by decide +kernel
theorem d_Mo_reads_198 : decode c_Mo_reads 198 = .ok (.getfield 92, 3) := by decide +kernel
theorem d_Mo_reads_201 : decode c_Mo_reads 201 = .ok (.iconst 1, 1) := by decide +kernel
theorem d_Mo_reads_202 : decode c_Mo_reads 202 = .ok (.isub, 1) := by decide +kernel
theorem d_Mo_reads_203 : decode c_Mo_reads 203 = .ok (.putfield 92, 3) := by decide +kernel
theorem d_Mo_reads_206 : decode c_Mo_reads 206 = .ok (.goto 75, 3) := by decide +kernel
theorem d_Mo_reads_209 : decode c_Mo_reads 209 = .ok (.iload_n 3, 1) := by decide +kernel
theorem d_Mo_reads_210 : decode c_Mo_reads 210 = .ok (.iconst 2, 1) := by decide +kernel
theorem d_Mo_reads_211 : decode c_Mo_reads 211 = .ok (.if_icmp .ne 63, 3) := by decide +kernel
theorem d_Mo_reads_214 : decode c_Mo_reads 214 = .ok (.aload_n 0, 1) := by decide +kernel
theorem d_Mo_reads_215 : decode c_Mo_reads 215 = .ok (.getfield 26, 3) := by decide +kernel
theorem d_Mo_reads_218 : decode c_Mo_reads 218 = .ok (.bipush 24, 2) := by decide +kernel
theorem d_Mo_reads_220 : decode c_Mo_reads 220 = .ok (.iload_n 1, 1) := by decide +kernel
theorem d_Mo_reads_221 : decode c_Mo_reads 221 = .ok (.imul, 1) := by decide +kernel
theorem d_Mo_reads_222 : decode c_Mo_reads 222 = .ok (.iload_n 2, 1) := by decide +kernel
theorem d_Mo_reads_223 : decode c_Mo_reads 223 = .ok (.bipush 24, 2) := by decide +kernel
theorem d_Mo_reads_225 : decode c_Mo_reads 225 = .ok (.if_icmp .ge 7, 3) := by decide +kernel
theorem d_Mo_reads_228 : decode c_Mo_reads 228 = .ok (.iload_n 2, 1) := by decide +kernel
theorem d_Mo_reads_229 : decode c_Mo_reads 229 = .ok (.goto 5, 3) := by decide +kernel
theorem d_Mo_reads_232 : decode c_Mo_reads 232 = .ok (.bipush 23, 2) := by decide +kernel
theorem d_Mo_reads_234 : decode c_Mo_reads 234 = .ok (.iadd, 1) := by decide +kernel
theorem d_Mo_reads_235 : decode c_Mo_reads 235 = .ok (.iload_n 2, 1) := by decide +kernel
theorem d_Mo_reads_236 : decode c_Mo_reads 236 = .ok (.aload_n 0, 1) := by decide +kernel
theorem d_Mo_reads_237 : decode c_Mo_reads 237 = .ok (.getfield 16, 3) := by decide +kernel
theorem d_Mo_reads_240 : decode c_Mo_reads 240 = .ok (.iload_n 1, 1) := by decide +kernel
theorem d_Mo_reads_241 : decode c_Mo_reads 241 = .ok (.iaload, 1) := by decide +kernel
theorem d_Mo_reads_242 : decode c_Mo_reads 242 = .ok (.if_icmp .ge 7, 3) := by decide +kernel
theorem d_Mo_reads_245 : decode c_Mo_reads 245 = .ok (.iconst 1, 1) := by decide +kernel
theorem d_Mo_reads_246 : decode c_Mo_reads 246 = .ok (.goto 4, 3) := by decide +kernel
theorem d_Mo_reads_249 : decode c_Mo_reads 249 = .ok (.iconst 0, 1) := by decide +kernel
theorem d_Mo_reads_250 : decode c_Mo_reads 250 = .ok (.bastore, 1) := by decide +kernel
theorem d_Mo_reads_251 : decode c_Mo_reads 251 = .ok (.aload_n 0, 1) := by decide +kernel
theorem d_Mo_reads_252 : decode c_Mo_reads 252 = .ok (.iload_n 1, 1) := by decide +kernel
theorem d_Mo_reads_253 : decode c_Mo_reads 253 = .ok (.iload_n 2, 1) := by decide +kernel
theorem d_Mo_reads_254 : decode c_Mo_reads 254 = .ok (.invokevirtual 88, 3) := by decide +kernel
theorem d_Mo_reads_257 : decode c_Mo_reads 257 = .ok (.invokestatic 95, 3) := by decide +kernel
theorem d_Mo_reads_260 : decode c_Mo_reads 260 = .ok (.ifCond .eq 9, 3) := by decide +kernel
theorem d_Mo_reads_263 : decode c_Mo_reads 263 = .ok (.iload_n 2, 1) := by decide +kernel
theorem d_Mo_reads_264 : decode c_Mo_reads 264 = .ok (.iconst 1, 1) := by decide +kernel
theorem d_Mo_reads_265 : decode c_Mo_reads 265 = .ok (.iadd, 1) := by decide +kernel
theorem d_Mo_reads_266 : decode c_Mo_reads 266 = .ok (.goto 4, 3) := by decide +kernel
theorem d_Mo_reads_269 : decode c_Mo_reads 269 = .ok (.iconst (-1), 1) := by decide +kernel
theorem d_Mo_reads_270 : decode c_Mo_reads 270 = .ok (.istore_n 2, 1) := by decide +kernel
theorem d_Mo_reads_271 : decode c_Mo_reads 271 = .ok (.goto 10, 3) := by decide +kernel
theorem d_Mo_reads_274 : decode c_Mo_reads 274 = .ok (.aload_n 0, 1) := by decide +kernel
theorem d_Mo_reads_275 : decode c_Mo_reads 275 = .ok (.iload_n 1, 1) := by decide +kernel
theorem d_Mo_reads_276 : decode c_Mo_reads 276 = .ok (.iload_n 2, 1) := by decide +kernel
theorem d_Mo_reads_277 : decode c_Mo_reads 277 = .ok (.invokevirtual 112, 3) := by decide +kernel
theorem d_Mo_reads_280 : decode c_Mo_reads 280 = .ok (.istore_n 2, 1) := by decide +kernel
theorem d_Mo_reads_281 : decode c_Mo_reads 281 = .ok (.goto (-165), 3) := by decide +kernel
theorem d_Mo_reads_284 : decode c_Mo_reads 284 = .ok (.iload_n 2, 1) := by decide +kernel
theorem d_Mo_reads_285 : decode c_Mo_reads 285 = .ok (.aload_n 0, 1) := by decide +kernel
theorem d_Mo_reads_286 : decode c_Mo_reads 286 = .ok (.getfield 16, 3) := by decide +kernel
theorem d_Mo_reads_289 : decode c_Mo_reads 289 = .ok (.iload_n 1, 1) := by decide +kernel
theorem d_Mo_reads_290 : decode c_Mo_reads 290 = .ok (.iaload, 1) := by decide +kernel
theorem d_Mo_reads_291 : decode c_Mo_reads 291 = .ok (.if_icmp .ne 7, 3) := by decide +kernel
theorem d_Mo_reads_294 : decode c_Mo_reads 294 = .ok (.iconst 1, 1) := by decide +kernel
theorem d_Mo_reads_295 : decode c_Mo_reads 295 = .ok (.goto 4, 3) := by decide +kernel
theorem d_Mo_reads_298 : decode c_Mo_reads 298 = .ok (.iconst 0, 1) := by decide +kernel
theorem d_Mo_reads_299 : decode c_Mo_reads 299 = .ok (.ireturn, 1) := by decide +kernel
theorem d_Mo_charAt_0 : decode c_Mo_charAt 0 = .ok (.iload_n 2, 1) := by decide +kernel
theorem d_Mo_charAt_1 : decode c_Mo_charAt 1 = .ok (.aload_n 0, 1) := by decide +kernel
theorem d_Mo_charAt_2 : decode c_Mo_charAt 2 = .ok (.getfield 16, 3) := by decide +kernel
theorem d_Mo_charAt_5 : decode c_Mo_charAt 5 = .ok (.iload_n 1, 1) := by decide +kernel
theorem d_Mo_charAt_6 : decode c_Mo_charAt 6 = .ok (.iaload, 1) := by decide +kernel
theorem d_Mo_charAt_7 : decode c_Mo_charAt 7 = .ok (.if_icmp .ge 17, 3) := by decide +kernel
theorem d_Mo_charAt_10 : decode c_Mo_charAt 10 = .ok (.aload_n 0, 1) := by decide +kernel
theorem d_Mo_charAt_11 : decode c_Mo_charAt 11 = .ok (.getfield 13, 3) := by decide +kernel
theorem d_Mo_charAt_14 : decode c_Mo_charAt 14 = .ok (.bipush 24, 2) := by decide +kernel
theorem d_Mo_charAt_16 : decode c_Mo_charAt 16 = .ok (.iload_n 1, 1) := by decide +kernel
theorem d_Mo_charAt_17 : decode c_Mo_charAt 17 = .ok (.imul, 1) := by decide +kernel
theorem d_Mo_charAt_18 : decode c_Mo_charAt 18 = .ok (.iload_n 2, 1) := by decide +kernel
theorem d_Mo_charAt_19 : decode c_Mo_charAt 19 = .ok (.iadd, 1) := by decide +kernel
theorem d_Mo_charAt_20 : decode c_Mo_charAt 20 = .ok (.caload, 1) := by decide +kernel
theorem d_Mo_charAt_21 : decode c_Mo_charAt 21 = .ok (.goto 5, 3) := by decide +kernel
theorem d_Mo_charAt_24 : decode c_Mo_charAt 24 = .ok (.bipush 32, 2) := by decide +kernel
theorem d_Mo_charAt_26 : decode c_Mo_charAt 26 = .ok (.ireturn, 1) := by decide +kernel
theorem d_Mo_isLocal_0 : decode c_Mo_isLocal 0 = .ok (.iload_n 0, 1) := by decide +kernel
theorem d_Mo_isLocal_1 : decode c_Mo_isLocal 1 = .ok (.bipush 107, 2) := by decide +kernel
theorem d_Mo_isLocal_3 : decode c_Mo_isLocal 3 = .ok (.if_icmp .lt 13, 3) := by decide +kernel
theorem d_Mo_isLocal_6 : decode c_Mo_isLocal 6 = .ok (.iload_n 0, 1) := by decide +kernel
theorem d_Mo_isLocal_7 : decode c_Mo_isLocal 7 = .ok (.bipush 112, 2) := by decide +kernel
theorem d_Mo_isLocal_9 : decode c_Mo_isLocal 9 = .ok (.if_icmp .gt 7, 3) := by decide +kernel
theorem d_Mo_isLocal_12 : decode c_Mo_isLocal 12 = .ok (.iconst 1, 1) := by decide +kernel
theorem d_Mo_isLocal_13 : decode c_Mo_isLocal 13 = .ok (.goto 4, 3) := by decide +kernel
theorem d_Mo_isLocal_16 : decode c_Mo_isLocal 16 = .ok (.iconst 0, 1) := by decide +kernel
theorem d_Mo_isLocal_17 : decode c_Mo_isLocal 17 = .ok (.ireturn, 1) := by decide +kernel
theorem d_Mo_come_0 : decode c_Mo_come 0 = .ok (.aload_n 0, 1) := by decide +kernel
theorem d_Mo_come_1 : decode c_Mo_come 1 = .ok (.getfield 51, 3) := by decide +kernel
theorem d_Mo_come_4 : decode c_Mo_come 4 = .ok (.aload_n 0, 1) := by decide +kernel
theorem d_Mo_come_5 : decode c_Mo_come 5 = .ok (.getfield 85, 3) := by decide +kernel
theorem d_Mo_come_8 : decode c_Mo_come 8 = .ok (.iload_n 1, 1) := by decide +kernel
theorem d_Mo_come_9 : decode c_Mo_come 9 = .ok (.iastore, 1) := by decide +kernel
theorem d_Mo_come_10 : decode c_Mo_come 10 = .ok (.aload_n 0, 1) := by decide +kernel
theorem d_Mo_come_11 : decode c_Mo_come 11 = .ok (.dup, 1) := by decide +kernel
theorem d_Mo_come_12 : decode c_Mo_come 12 = .ok (.getfield 85, 3) := by decide +kernel
theorem d_Mo_come_15 : decode c_Mo_come 15 = .ok (.iconst 1, 1) := by decide +kernel
theorem d_Mo_come_16 : decode c_Mo_come 16 = .ok (.iadd, 1) := by decide +kernel
theorem d_Mo_come_17 : decode c_Mo_come 17 = .ok (.putfield 85, 3) := by decide +kernel
theorem d_Mo_come_20 : decode c_Mo_come 20 = .ok (.return_, 1) := by decide +kernel
theorem d_Mo_isDigit_0 : decode c_Mo_isDigit 0 = .ok (.iload_n 0, 1) := by decide +kernel
theorem d_Mo_isDigit_1 : decode c_Mo_isDigit 1 = .ok (.bipush 48, 2) := by decide +kernel
theorem d_Mo_isDigit_3 : decode c_Mo_isDigit 3 = .ok (.if_icmp .lt 13, 3) := by decide +kernel
theorem d_Mo_isDigit_6 : decode c_Mo_isDigit 6 = .ok (.iload_n 0, 1) := by decide +kernel
theorem d_Mo_isDigit_7 : decode c_Mo_isDigit 7 = .ok (.bipush 57, 2) := by decide +kernel
theorem d_Mo_isDigit_9 : decode c_Mo_isDigit 9 = .ok (.if_icmp .gt 7, 3) := by decide +kernel
theorem d_Mo_isDigit_12 : decode c_Mo_isDigit 12 = .ok (.iconst 1, 1) := by decide +kernel
theorem d_Mo_isDigit_13 : decode c_Mo_isDigit 13 = .ok (.goto 4, 3) := by decide +kernel
theorem d_Mo_isDigit_16 : decode c_Mo_isDigit 16 = .ok (.iconst 0, 1) := by decide +kernel
theorem d_Mo_isDigit_17 : decode c_Mo_isDigit 17 = .ok (.ireturn, 1) := by decide +kernel
theorem d_Mo_readOne_0 : decode c_Mo_readOne 0 = .ok (.aload_n 0, 1) := by decide +kernel
theorem d_Mo_readOne_1 : decode c_Mo_readOne 1 = .ok (.iload_n 1, 1) := by decide +kernel
theorem d_Mo_readOne_2 : decode c_Mo_readOne 2 = .ok (.iload_n 2, 1) := by decide +kernel
theorem d_Mo_readOne_3 : decode c_Mo_readOne 3 = .ok (.invokevirtual 88, 3) := by decide +kernel
theorem d_Mo_readOne_6 : decode c_Mo_readOne 6 = .ok (.istore_n 3, 1) := by decide +kernel
theorem d_Mo_readOne_7 : decode c_Mo_readOne 7 = .ok (.aload_n 0, 1) := by decide +kernel
theorem d_Mo_readOne_8 : decode c_Mo_readOne 8 = .ok (.iload_n 1, 1) := by decide +kernel
theorem d_Mo_readOne_9 : decode c_Mo_readOne 9 = .ok (.iload_n 2, 1) := by decide +kernel
theorem d_Mo_readOne_10 : decode c_Mo_readOne 10 = .ok (.iconst 1, 1) := by decide +kernel
theorem d_Mo_readOne_11 : decode c_Mo_readOne 11 = .ok (.iadd, 1) := by decide +kernel
theorem d_Mo_readOne_12 : decode c_Mo_readOne 12 = .ok (.invokevirtual 88, 3) := by decide +kernel
theorem d_Mo_readOne_15 : decode c_Mo_readOne 15 = .ok (.istore 4, 2) := by decide +kernel
theorem d_Mo_readOne_17 : decode c_Mo_readOne 17 = .ok (.aload_n 0, 1) := by decide +kernel
theorem d_Mo_readOne_18 : decode c_Mo_readOne 18 = .ok (.getfield 92, 3) := by decide +kernel
theorem d_Mo_readOne_21 : decode c_Mo_readOne 21 = .ok (.iconst 5, 1) := by decide +kernel
theorem d_Mo_readOne_22 : decode c_Mo_readOne 22 = .ok (.if_icmp .le 5, 3) := by decide +kernel
theorem d_Mo_readOne_25 : decode c_Mo_readOne 25 = .ok (.iconst (-1), 1) := by decide +kernel
theorem d_Mo_readOne_26 : decode c_Mo_readOne 26 = .ok (.ireturn, 1) := by decide +kernel
theorem d_Mo_readOne_27 : decode c_Mo_readOne 27 = .ok (.iload_n 3, 1) := by decide +kernel
theorem d_Mo_readOne_28 : decode c_Mo_readOne 28 = .ok (.invokestatic 95, 3) := by decide +kernel
theorem d_Mo_readOne_31 : decode c_Mo_readOne 31 = .ok (.ifCond .eq 7, 3) := by decide +kernel
theorem d_Mo_readOne_34 : decode c_Mo_readOne 34 = .ok (.iload_n 2, 1) := by decide +kernel
theorem d_Mo_readOne_35 : decode c_Mo_readOne 35 = .ok (.iconst 1, 1) := by decide +kernel
theorem d_Mo_readOne_36 : decode c_Mo_readOne 36 = .ok (.iadd, 1) := by decide +kernel
theorem d_Mo_readOne_37 : decode c_Mo_readOne 37 = .ok (.ireturn, 1) := by decide +kernel
theorem d_Mo_readOne_38 : decode c_Mo_readOne 38 = .ok (.iload_n 3, 1) := by decide +kernel
theorem d_Mo_readOne_39 : decode c_Mo_readOne 39 = .ok (.invokestatic 99, 3) := by decide +kernel
theorem d_Mo_readOne_42 : decode c_Mo_readOne 42 = .ok (.ifCond .eq 22, 3) := by decide +kernel
theorem d_Mo_readOne_45 : decode c_Mo_readOne 45 = .ok (.aload_n 0, 1) := by decide +kernel
theorem d_Mo_readOne_46 : decode c_Mo_readOne 46 = .ok (.getfield 33, 3) := by decide +kernel
theorem d_Mo_readOne_49 : decode c_Mo_readOne 49 = .ok (.iload_n 1, 1) := by decide +kernel
theorem d_Mo_readOne_50 : decode c_Mo_readOne 50 = .ok (.dup2, 1) := by decide +kernel
theorem d_Mo_readOne_51 : decode c_Mo_readOne 51 = .ok (.iaload, 1) := by decide +kernel
theorem d_Mo_readOne_52 : decode c_Mo_readOne 52 = .ok (.iconst 1, 1) := by decide +kernel
theorem d_Mo_readOne_53 : decode c_Mo_readOne 53 = .ok (.iload_n 3, 1) := by decide +kernel
theorem d_Mo_readOne_54 : decode c_Mo_readOne 54 = .ok (.bipush 97, 2) := by decide +kernel
theorem d_Mo_readOne_56 : decode c_Mo_readOne 56 = .ok (.isub, 1) := by decide +kernel
theorem d_Mo_readOne_57 : decode c_Mo_readOne 57 = .ok (.ishl, 1) := by decide +kernel
theorem d_Mo_readOne_58 : decode c_Mo_readOne 58 = .ok (.ior, 1) := by decide +kernel
theorem d_Mo_readOne_59 : decode c_Mo_readOne 59 = .ok (.iastore, 1) := by decide +kernel
theorem d_Mo_readOne_60 : decode c_Mo_readOne 60 = .ok (.iload_n 2, 1) := by decide +kernel
theorem d_Mo_readOne_61 : decode c_Mo_readOne 61 = .ok (.iconst 1, 1) := by decide +kernel
theorem d_Mo_readOne_62 : decode c_Mo_readOne 62 = .ok (.iadd, 1) := by decide +kernel
theorem d_Mo_readOne_63 : decode c_Mo_readOne 63 = .ok (.ireturn, 1) := by decide +kernel
theorem d_Mo_readOne_64 : decode c_Mo_readOne 64 = .ok (.iload_n 3, 1) := by decide +kernel
theorem d_Mo_readOne_65 : decode c_Mo_readOne 65 = .ok (.invokestatic 102, 3) := by decide +kernel
theorem d_Mo_readOne_68 : decode c_Mo_readOne 68 = .ok (.ifCond .eq 23, 3) := by decide +kernel
theorem d_Mo_readOne_71 : decode c_Mo_readOne 71 = .ok (.aload_n 0, 1) := by decide +kernel
theorem d_Mo_readOne_72 : decode c_Mo_readOne 72 = .ok (.getfield 54, 3) := by decide +kernel
theorem d_Mo_readOne_75 : decode c_Mo_readOne 75 = .ok (.iload_n 3, 1) := by decide +kernel
theorem d_Mo_readOne_76 : decode c_Mo_readOne 76 = .ok (.bipush 107, 2) := by decide +kernel
theorem d_Mo_readOne_78 : decode c_Mo_readOne 78 = .ok (.isub, 1) := by decide +kernel
theorem d_Mo_readOne_79 : decode c_Mo_readOne 79 = .ok (.iaload, 1) := by decide +kernel
theorem d_Mo_readOne_80 : decode c_Mo_readOne 80 = .ok (.ifCond .le 9, 3) := by decide +kernel
theorem d_Mo_readOne_83 : decode c_Mo_readOne 83 = .ok (.iload_n 2, 1) := by decide +kernel
theorem d_Mo_readOne_84 : decode c_Mo_readOne 84 = .ok (.iconst 1, 1) := by decide +kernel
theorem d_Mo_readOne_85 : decode c_Mo_readOne 85 = .ok (.iadd, 1) := by decide +kernel
theorem d_Mo_readOne_86 : decode c_Mo_readOne 86 = .ok (.goto 4, 3) := by decide +kernel
theorem d_Mo_readOne_89 : decode c_Mo_readOne 89 = .ok (.iconst (-1), 1) := by decide +kernel
theorem d_Mo_readOne_90 : decode c_Mo_readOne 90 = .ok (.ireturn, 1) := by decide +kernel
theorem d_Mo_readOne_91 : decode c_Mo_readOne 91 = .ok (.aload_n 0, 1) := by decide +kernel
theorem d_Mo_readOne_92 : decode c_Mo_readOne 92 = .ok (.iconst 3, 1) := by decide +kernel
theorem d_Mo_readOne_93 : decode c_Mo_readOne 93 = .ok (.invokevirtual 105, 3) := by decide +kernel
theorem d_Mo_readOne_96 : decode c_Mo_readOne 96 = .ok (.aload_n 0, 1) := by decide +kernel
theorem d_Mo_readOne_97 : decode c_Mo_readOne 97 = .ok (.dup, 1) := by decide +kernel
theorem d_Mo_readOne_98 : decode c_Mo_readOne 98 = .ok (.getfield 92, 3) := by decide +kernel
theorem d_Mo_readOne_101 : decode c_Mo_readOne 101 = .ok (.iconst 1, 1) := by decide +kernel
theorem d_Mo_readOne_102 : decode c_Mo_readOne 102 = .ok (.iadd, 1) := by decide +kernel
theorem d_Mo_readOne_103 : decode c_Mo_readOne 103 = .ok (.putfield 92, 3) := by decide +kernel
theorem d_Mo_readOne_106 : decode c_Mo_readOne 106 = .ok (.iload_n 3, 1) := by decide +kernel
theorem d_Mo_readOne_107 : decode c_Mo_readOne 107 = .ok (.bipush 36, 2) := by decide +kernel
theorem d_Mo_readOne_109 : decode c_Mo_readOne 109 = .ok (.if_icmp .ne 65, 3) := by decide +kernel
theorem d_Mo_readOne_112 : decode c_Mo_readOne 112 = .ok (.iload 4, 2) := by decide +kernel
theorem d_Mo_readOne_114 : decode c_Mo_readOne 114 = .ok (.invokestatic 102, 3) := by decide +kernel
theorem d_Mo_readOne_117 : decode c_Mo_readOne 117 = .ok (.ifCond .ne 5, 3) := by decide +kernel
theorem d_Mo_readOne_120 : decode c_Mo_readOne 120 = .ok (.iconst (-1), 1) := by decide +kernel
theorem d_Mo_readOne_121 : decode c_Mo_readOne 121 = .ok (.ireturn, 1) := by decide +kernel
theorem d_Mo_readOne_122 : decode c_Mo_readOne 122 = .ok (.aload_n 0, 1) := by decide +kernel
theorem d_Mo_readOne_123 : decode c_Mo_readOne 123 = .ok (.getfield 26, 3) := by decide +kernel
theorem d_Mo_readOne_126 : decode c_Mo_readOne 126 = .ok (.bipush 24, 2) := by decide +kernel
theorem d_Mo_readOne_128 : decode c_Mo_readOne 128 = .ok (.iload_n 1, 1) := by decide +kernel
theorem d_Mo_readOne_129 : decode c_Mo_readOne 129 = .ok (.imul, 1) := by decide +kernel
theorem d_Mo_readOne_130 : decode c_Mo_readOne 130 = .ok (.iload_n 2, 1) := by decide +kernel
theorem d_Mo_readOne_131 : decode c_Mo_readOne 131 = .ok (.iadd, 1) := by decide +kernel
theorem d_Mo_readOne_132 : decode c_Mo_readOne 132 = .ok (.iconst 1, 1) := by decide +kernel
theorem d_Mo_readOne_133 : decode c_Mo_readOne 133 = .ok (.iadd, 1) := by decide +kernel
theorem d_Mo_readOne_134 : decode c_Mo_readOne 134 = .ok (.iconst 1, 1) := by decide +kernel
theorem d_Mo_readOne_135 : decode c_Mo_readOne 135 = .ok (.bastore, 1) := by decide +kernel
theorem d_Mo_readOne_136 : decode c_Mo_readOne 136 = .ok (.aload_n 0, 1) := by decide +kernel
theorem d_Mo_readOne_137 : decode c_Mo_readOne 137 = .ok (.bipush 20, 2) := by decide +kernel
theorem d_Mo_readOne_139 : decode c_Mo_readOne 139 = .ok (.iload 4, 2) := by decide +kernel
theorem d_Mo_readOne_141 : decode c_Mo_readOne 141 = .ok (.iadd, 1) := by decide +kernel
theorem d_Mo_readOne_142 : decode c_Mo_readOne 142 = .ok (.bipush 107, 2) := by decide +kernel
theorem d_Mo_readOne_144 : decode c_Mo_readOne 144 = .ok (.isub, 1) := by decide +kernel
theorem d_Mo_readOne_145 : decode c_Mo_readOne 145 = .ok (.invokevirtual 105, 3) := by decide +kernel
theorem d_Mo_readOne_148 : decode c_Mo_readOne 148 = .ok (.aload_n 0, 1) := by decide +kernel
theorem d_Mo_readOne_149 : decode c_Mo_readOne 149 = .ok (.iconst 1, 1) := by decide +kernel
theorem d_Mo_readOne_150 : decode c_Mo_readOne 150 = .ok (.invokevirtual 105, 3) := by decide +kernel
theorem d_Mo_readOne_153 : decode c_Mo_readOne 153 = .ok (.aload_n 0, 1) := by decide +kernel
theorem d_Mo_readOne_154 : decode c_Mo_readOne 154 = .ok (.bipush 10, 2) := by decide +kernel
theorem d_Mo_readOne_156 : decode c_Mo_readOne 156 = .ok (.iload 4, 2) := by decide +kernel
theorem d_Mo_readOne_158 : decode c_Mo_readOne 158 = .ok (.iadd, 1) := by decide +kernel
theorem d_Mo_readOne_159 : decode c_Mo_readOne 159 = .ok (.bipush 107, 2) := by decide +kernel
theorem d_Mo_readOne_161 : decode c_Mo_readOne 161 = .ok (.isub, 1) := by decide +kernel
theorem d_Mo_readOne_162 : decode c_Mo_readOne 162 = .ok (.invokevirtual 105, 3) := by decide +kernel
theorem d_Mo_readOne_165 : decode c_Mo_readOne 165 = .ok (.aload_n 0, 1) := by decide +kernel
theorem d_Mo_readOne_166 : decode c_Mo_readOne 166 = .ok (.iconst 1, 1) := by decide +kernel
theorem d_Mo_readOne_167 : decode c_Mo_readOne 167 = .ok (.invokevirtual 105, 3) := by decide +kernel
theorem d_Mo_readOne_170 : decode c_Mo_readOne 170 = .ok (.iload_n 2, 1) := by decide +kernel
theorem d_Mo_readOne_171 : decode c_Mo_readOne 171 = .ok (.iconst 2, 1) := by decide +kernel
theorem d_Mo_readOne_172 : decode c_Mo_readOne 172 = .ok (.iadd, 1) := by decide +kernel
theorem d_Mo_readOne_173 : decode c_Mo_readOne 173 = .ok (.ireturn, 1) := by decide +kernel
theorem d_Mo_readOne_174 : decode c_Mo_readOne 174 = .ok (.iload_n 3, 1) := by decide +kernel
theorem d_Mo_readOne_175 : decode c_Mo_readOne 175 = .ok (.bipush 33, 2) := by decide +kernel
theorem d_Mo_readOne_177 : decode c_Mo_readOne 177 = .ok (.if_icmp .ne 52, 3) := by decide +kernel
theorem d_Mo_readOne_180 : decode c_Mo_readOne 180 = .ok (.iload 4, 2) := by decide +kernel
theorem d_Mo_readOne_182 : decode c_Mo_readOne 182 = .ok (.invokestatic 99, 3) := by decide +kernel
theorem d_Mo_readOne_185 : decode c_Mo_readOne 185 = .ok (.ifCond .ne 5, 3) := by decide +kernel
theorem d_Mo_readOne_188 : decode c_Mo_readOne 188 = .ok (.iconst (-1), 1) := by decide +kernel
theorem d_Mo_readOne_189 : decode c_Mo_readOne 189 = .ok (.ireturn, 1) := by decide +kernel
theorem d_Mo_readOne_190 : decode c_Mo_readOne 190 = .ok (.aload_n 0, 1) := by decide +kernel
theorem d_Mo_readOne_191 : decode c_Mo_readOne 191 = .ok (.getfield 26, 3) := by decide +kernel
theorem d_Mo_readOne_194 : decode c_Mo_readOne 194 = .ok (.bipush 24, 2) := by decide +kernel
theorem d_Mo_readOne_196 : decode c_Mo_readOne 196 = .ok (.iload_n 1, 1) := by decide +kernel
theorem d_Mo_readOne_197 : decode c_Mo_readOne 197 = .ok (.imul, 1) := by decide +kernel
theorem d_Mo_readOne_198 : decode c_Mo_readOne 198 = .ok (.iload_n 2, 1) := by decide +kernel
theorem d_Mo_readOne_199 : decode c_Mo_readOne 199 = .ok (.iadd, 1) := by decide +kernel
theorem d_Mo_readOne_200 : decode c_Mo_readOne 200 = .ok (.iconst 1, 1) := by decide +kernel
theorem d_Mo_readOne_201 : decode c_Mo_readOne 201 = .ok (.iadd, 1) := by decide +kernel
theorem d_Mo_readOne_202 : decode c_Mo_readOne 202 = .ok (.iconst 1, 1) := by decide +kernel
theorem d_Mo_readOne_203 : decode c_Mo_readOne 203 = .ok (.bastore, 1) := by decide +kernel
theorem d_Mo_readOne_204 : decode c_Mo_readOne 204 = .ok (.aload_n 0, 1) := by decide +kernel
theorem d_Mo_readOne_205 : decode c_Mo_readOne 205 = .ok (.getfield 33, 3) := by decide +kernel
theorem d_Mo_readOne_208 : decode c_Mo_readOne 208 = .ok (.iload_n 1, 1) := by decide +kernel
theorem d_Mo_readOne_209 : decode c_Mo_readOne 209 = .ok (.dup2, 1) := by decide +kernel
theorem d_Mo_readOne_210 : decode c_Mo_readOne 210 = .ok (.iaload, 1) := by decide +kernel
theorem d_Mo_readOne_211 : decode c_Mo_readOne 211 = .ok (.iconst 1, 1) := by decide +kernel
theorem d_Mo_readOne_212 : decode c_Mo_readOne 212 = .ok (.iload 4, 2) := by decide +kernel
theorem d_Mo_readOne_214 : decode c_Mo_readOne 214 = .ok (.bipush 97, 2) := by decide +kernel
theorem d_Mo_readOne_216 : decode c_Mo_readOne 216 = .ok (.isub, 1) := by decide +kernel
theorem d_Mo_readOne_217 : decode c_Mo_readOne 217 = .ok (.ishl, 1) := by decide +kernel
theorem d_Mo_readOne_218 : decode c_Mo_readOne 218 = .ok (.ior, 1) := by decide +kernel
theorem d_Mo_readOne_219 : decode c_Mo_readOne 219 = .ok (.iastore, 1) := by decide +kernel
theorem d_Mo_readOne_220 : decode c_Mo_readOne 220 = .ok (.aload_n 0, 1) := by decide +kernel
theorem d_Mo_readOne_221 : decode c_Mo_readOne 221 = .ok (.iconst 1, 1) := by decide +kernel
theorem d_Mo_readOne_222 : decode c_Mo_readOne 222 = .ok (.invokevirtual 105, 3) := by decide +kernel
theorem d_Mo_readOne_225 : decode c_Mo_readOne 225 = .ok (.iload_n 2, 1) := by decide +kernel
theorem d_Mo_readOne_226 : decode c_Mo_readOne 226 = .ok (.iconst 2, 1) := by decide +kernel
theorem d_Mo_readOne_227 : decode c_Mo_readOne 227 = .ok (.iadd, 1) := by decide +kernel
theorem d_Mo_readOne_228 : decode c_Mo_readOne 228 = .ok (.ireturn, 1) := by decide +kernel
theorem d_Mo_readOne_229 : decode c_Mo_readOne 229 = .ok (.iload_n 3, 1) := by decide +kernel
theorem d_Mo_readOne_230 : decode c_Mo_readOne 230 = .ok (.invokestatic 109, 3) := by decide +kernel
theorem d_Mo_readOne_233 : decode c_Mo_readOne 233 = .ok (.ifCond .eq 7, 3) := by decide +kernel
theorem d_Mo_readOne_236 : decode c_Mo_readOne 236 = .ok (.iconst 2, 1) := by decide +kernel
theorem d_Mo_readOne_237 : decode c_Mo_readOne 237 = .ok (.goto 24, 3) := by decide +kernel
theorem d_Mo_readOne_240 : decode c_Mo_readOne 240 = .ok (.iload_n 3, 1) := by decide +kernel
theorem d_Mo_readOne_241 : decode c_Mo_readOne 241 = .ok (.bipush 126, 2) := by decide +kernel
theorem d_Mo_readOne_243 : decode c_Mo_readOne 243 = .ok (.if_icmp .ne 7, 3) := by decide +kernel
theorem d_Mo_readOne_246 : decode c_Mo_readOne 246 = .ok (.iconst 1, 1) := by decide +kernel
theorem d_Mo_readOne_247 : decode c_Mo_readOne 247 = .ok (.goto 14, 3) := by decide +kernel
theorem d_Mo_readOne_250 : decode c_Mo_readOne 250 = .ok (.iload_n 3, 1) := by decide +kernel
theorem d_Mo_readOne_251 : decode c_Mo_readOne 251 = .ok (.bipush 63, 2) := by decide +kernel
theorem d_Mo_readOne_253 : decode c_Mo_readOne 253 = .ok (.if_icmp .ne 7, 3) := by decide +kernel
theorem d_Mo_readOne_256 : decode c_Mo_readOne 256 = .ok (.iconst 3, 1) := by decide +kernel
theorem d_Mo_readOne_257 : decode c_Mo_readOne 257 = .ok (.goto 4, 3) := by decide +kernel
theorem d_Mo_readOne_260 : decode c_Mo_readOne 260 = .ok (.iconst 0, 1) := by decide +kernel
theorem d_Mo_readOne_261 : decode c_Mo_readOne 261 = .ok (.istore 5, 2) := by decide +kernel
theorem d_Mo_readOne_263 : decode c_Mo_readOne 263 = .ok (.iconst 0, 1) := by decide +kernel
theorem d_Mo_readOne_264 : decode c_Mo_readOne 264 = .ok (.istore 6, 2) := by decide +kernel
theorem d_Mo_readOne_266 : decode c_Mo_readOne 266 = .ok (.iload 6, 2) := by decide +kernel
theorem d_Mo_readOne_268 : decode c_Mo_readOne 268 = .ok (.iload 5, 2) := by decide +kernel
theorem d_Mo_readOne_270 : decode c_Mo_readOne 270 = .ok (.if_icmp .ge 14, 3) := by decide +kernel
theorem d_Mo_readOne_273 : decode c_Mo_readOne 273 = .ok (.aload_n 0, 1) := by decide +kernel
theorem d_Mo_readOne_274 : decode c_Mo_readOne 274 = .ok (.iconst 1, 1) := by decide +kernel
theorem d_Mo_readOne_275 : decode c_Mo_readOne 275 = .ok (.invokevirtual 105, 3) := by decide +kernel
theorem d_Mo_readOne_278 : decode c_Mo_readOne 278 = .ok (.iinc 6 1, 3) := by decide +kernel
theorem d_Mo_readOne_281 : decode c_Mo_readOne 281 = .ok (.goto (-15), 3) := by decide +kernel
theorem d_Mo_readOne_284 : decode c_Mo_readOne 284 = .ok (.iload_n 3, 1) := by decide +kernel
theorem d_Mo_readOne_285 : decode c_Mo_readOne 285 = .ok (.bipush 35, 2) := by decide +kernel
theorem d_Mo_readOne_287 : decode c_Mo_readOne 287 = .ok (.if_icmp .ne 28, 3) := by decide +kernel
theorem d_Mo_readOne_290 : decode c_Mo_readOne 290 = .ok (.aload_n 0, 1) := by decide +kernel
theorem d_Mo_readOne_291 : decode c_Mo_readOne 291 = .ok (.iconst 1, 1) := by decide +kernel
theorem d_Mo_readOne_292 : decode c_Mo_readOne 292 = .ok (.invokevirtual 105, 3) := by decide +kernel
theorem d_Mo_readOne_295 : decode c_Mo_readOne 295 = .ok (.aload_n 0, 1) := by decide +kernel
theorem d_Mo_readOne_296 : decode c_Mo_readOne 296 = .ok (.iconst 2, 1) := by decide +kernel
theorem d_Mo_readOne_297 : decode c_Mo_readOne 297 = .ok (.invokevirtual 105, 3) := by decide +kernel
theorem d_Mo_readOne_300 : decode c_Mo_readOne 300 = .ok (.aload_n 0, 1) := by decide +kernel
theorem d_Mo_readOne_301 : decode c_Mo_readOne 301 = .ok (.iconst 1, 1) := by decide +kernel
theorem d_Mo_readOne_302 : decode c_Mo_readOne 302 = .ok (.invokevirtual 105, 3) := by decide +kernel
theorem d_Mo_readOne_305 : decode c_Mo_readOne 305 = .ok (.aload_n 0, 1) := by decide +kernel
theorem d_Mo_readOne_306 : decode c_Mo_readOne 306 = .ok (.iconst 2, 1) := by decide +kernel
theorem d_Mo_readOne_307 : decode c_Mo_readOne 307 = .ok (.invokevirtual 105, 3) := by decide +kernel
theorem d_Mo_readOne_310 : decode c_Mo_readOne 310 = .ok (.aload_n 0, 1) := by decide +kernel
theorem d_Mo_readOne_311 : decode c_Mo_readOne 311 = .ok (.iconst 1, 1) := by decide +kernel
theorem d_Mo_readOne_312 : decode c_Mo_readOne 312 = .ok (.invokevirtual 105, 3) := by decide +kernel
theorem d_Mo_readOne_315 : decode c_Mo_readOne 315 = .ok (.iload 5, 2) := by decide +kernel
theorem d_Mo_readOne_317 : decode c_Mo_readOne 317 = .ok (.ifCond .gt 9, 3) := by decide +kernel
theorem d_Mo_readOne_320 : decode c_Mo_readOne 320 = .ok (.iload_n 3, 1) := by decide +kernel
theorem d_Mo_readOne_321 : decode c_Mo_readOne 321 = .ok (.bipush 35, 2) := by decide +kernel
theorem d_Mo_readOne_323 : decode c_Mo_readOne 323 = .ok (.if_icmp .ne 9, 3) := by decide +kernel
theorem d_Mo_readOne_326 : decode c_Mo_readOne 326 = .ok (.iload_n 2, 1) := by decide +kernel
theorem d_Mo_readOne_327 : decode c_Mo_readOne 327 = .ok (.iconst 1, 1) := by decide +kernel
theorem d_Mo_readOne_328 : decode c_Mo_readOne 328 = .ok (.iadd, 1) := by decide +kernel
theorem d_Mo_readOne_329 : decode c_Mo_readOne 329 = .ok (.goto 4, 3) := by decide +kernel
theorem d_Mo_readOne_332 : decode c_Mo_readOne 332 = .ok (.iconst (-1), 1) := by decide +kernel
theorem d_Mo_readOne_333 : decode c_Mo_readOne 333 = .ok (.ireturn, 1) := by decide +kernel
theorem d_Mo_isName_0 : decode c_Mo_isName 0 = .ok (.iload_n 0, 1) := by decide +kernel
theorem d_Mo_isName_1 : decode c_Mo_isName 1 = .ok (.bipush 97, 2) := by decide +kernel
theorem d_Mo_isName_3 : decode c_Mo_isName 3 = .ok (.if_icmp .lt 13, 3) := by decide +kernel
theorem d_Mo_isName_6 : decode c_Mo_isName 6 = .ok (.iload_n 0, 1) := by decide +kernel
theorem d_Mo_isName_7 : decode c_Mo_isName 7 = .ok (.bipush 106, 2) := by decide +kernel
theorem d_Mo_isName_9 : decode c_Mo_isName 9 = .ok (.if_icmp .gt 7, 3) := by decide +kernel
theorem d_Mo_isName_12 : decode c_Mo_isName 12 = .ok (.iconst 1, 1) := by decide +kernel
theorem d_Mo_isName_13 : decode c_Mo_isName 13 = .ok (.goto 4, 3) := by decide +kernel
theorem d_Mo_isName_16 : decode c_Mo_isName 16 = .ok (.iconst 0, 1) := by decide +kernel
theorem d_Mo_isName_17 : decode c_Mo_isName 17 = .ok (.ireturn, 1) := by decide +kernel
theorem d_Mo_isBinary_0 : decode c_Mo_isBinary 0 = .ok (.iload_n 0, 1) := by decide +kernel
theorem d_Mo_isBinary_1 : decode c_Mo_isBinary 1 = .ok (.bipush 43, 2) := by decide +kernel
theorem d_Mo_isBinary_3 : decode c_Mo_isBinary 3 = .ok (.if_icmp .eq 39, 3) := by decide +kernel
theorem d_Mo_isBinary_6 : decode c_Mo_isBinary 6 = .ok (.iload_n 0, 1) := by decide +kernel
theorem d_Mo_isBinary_7 : decode c_Mo_isBinary 7 = .ok (.bipush 45, 2) := by decide +kernel
theorem d_Mo_isBinary_9 : decode c_Mo_isBinary 9 = .ok (.if_icmp .eq 33, 3) := by decide +kernel
theorem d_Mo_isBinary_12 : decode c_Mo_isBinary 12 = .ok (.iload_n 0, 1) := by decide +kernel
theorem d_Mo_isBinary_13 : decode c_Mo_isBinary 13 = .ok (.bipush 42, 2) := by decide +kernel
theorem d_Mo_isBinary_15 : decode c_Mo_isBinary 15 = .ok (.if_icmp .eq 27, 3) := by decide +kernel
theorem d_Mo_isBinary_18 : decode c_Mo_isBinary 18 = .ok (.iload_n 0, 1) := by decide +kernel
theorem d_Mo_isBinary_19 : decode c_Mo_isBinary 19 = .ok (.bipush 47, 2) := by decide +kernel
theorem d_Mo_isBinary_21 : decode c_Mo_isBinary 21 = .ok (.if_icmp .eq 21, 3) := by decide +kernel
theorem d_Mo_isBinary_24 : decode c_Mo_isBinary 24 = .ok (.iload_n 0, 1) := by decide +kernel
theorem d_Mo_isBinary_25 : decode c_Mo_isBinary 25 = .ok (.bipush 60, 2) := by decide +kernel
theorem d_Mo_isBinary_27 : decode c_Mo_isBinary 27 = .ok (.if_icmp .eq 15, 3) := by decide +kernel
theorem d_Mo_isBinary_30 : decode c_Mo_isBinary 30 = .ok (.iload_n 0, 1) := by decide +kernel
theorem d_Mo_isBinary_31 : decode c_Mo_isBinary 31 = .ok (.bipush 61, 2) := by decide +kernel
theorem d_Mo_isBinary_33 : decode c_Mo_isBinary 33 = .ok (.if_icmp .eq 9, 3) := by decide +kernel
theorem d_Mo_isBinary_36 : decode c_Mo_isBinary 36 = .ok (.iload_n 0, 1) := by decide +kernel
theorem d_Mo_isBinary_37 : decode c_Mo_isBinary 37 = .ok (.bipush 38, 2) := by decide +kernel
theorem d_Mo_isBinary_39 : decode c_Mo_isBinary 39 = .ok (.if_icmp .ne 7, 3) := by decide +kernel
theorem d_Mo_isBinary_42 : decode c_Mo_isBinary 42 = .ok (.iconst 1, 1) := by decide +kernel
theorem d_Mo_isBinary_43 : decode c_Mo_isBinary 43 = .ok (.goto 4, 3) := by decide +kernel
theorem d_Mo_isBinary_46 : decode c_Mo_isBinary 46 = .ok (.iconst 0, 1) := by decide +kernel
theorem d_Mo_isBinary_47 : decode c_Mo_isBinary 47 = .ok (.ireturn, 1) := by decide +kernel
theorem d_Mo_findEnds_0 : decode c_Mo_findEnds 0 = .ok (.aload_n 0, 1) := by decide +kernel
theorem d_Mo_findEnds_1 : decode c_Mo_findEnds 1 = .ok (.iload_n 1, 1) := by decide +kernel
theorem d_Mo_findEnds_2 : decode c_Mo_findEnds 2 = .ok (.invokevirtual 116, 3) := by decide +kernel
theorem d_Mo_findEnds_5 : decode c_Mo_findEnds 5 = .ok (.ifCond .eq 7, 3) := by decide +kernel
theorem d_Mo_findEnds_8 : decode c_Mo_findEnds 8 = .ok (.iconst 2, 1) := by decide +kernel
theorem d_Mo_findEnds_9 : decode c_Mo_findEnds 9 = .ok (.goto 4, 3) := by decide +kernel
theorem d_Mo_findEnds_12 : decode c_Mo_findEnds 12 = .ok (.iconst 0, 1) := by decide +kernel
theorem d_Mo_findEnds_13 : decode c_Mo_findEnds 13 = .ok (.istore_n 2, 1) := by decide +kernel
theorem d_Mo_findEnds_14 : decode c_Mo_findEnds 14 = .ok (.aload_n 0, 1) := by decide +kernel
theorem d_Mo_findEnds_15 : decode c_Mo_findEnds 15 = .ok (.getfield 16, 3) := by decide +kernel
theorem d_Mo_findEnds_18 : decode c_Mo_findEnds 18 = .ok (.iload_n 1, 1) := by decide +kernel
theorem d_Mo_findEnds_19 : decode c_Mo_findEnds 19 = .ok (.iaload, 1) := by decide +kernel
theorem d_Mo_findEnds_20 : decode c_Mo_findEnds 20 = .ok (.iconst 1, 1) := by decide +kernel
theorem d_Mo_findEnds_21 : decode c_Mo_findEnds 21 = .ok (.isub, 1) := by decide +kernel
theorem d_Mo_findEnds_22 : decode c_Mo_findEnds 22 = .ok (.istore_n 3, 1) := by decide +kernel
theorem d_Mo_findEnds_23 : decode c_Mo_findEnds 23 = .ok (.iload_n 3, 1) := by decide +kernel
theorem d_Mo_findEnds_24 : decode c_Mo_findEnds 24 = .ok (.iload_n 2, 1) := by decide +kernel
theorem d_Mo_findEnds_25 : decode c_Mo_findEnds 25 = .ok (.if_icmp .lt 123, 3) := by decide +kernel
theorem d_Mo_findEnds_28 : decode c_Mo_findEnds 28 = .ok (.aload_n 0, 1) := by decide +kernel
theorem d_Mo_findEnds_29 : decode c_Mo_findEnds 29 = .ok (.getfield 26, 3) := by decide +kernel
theorem d_Mo_findEnds_32 : decode c_Mo_findEnds 32 = .ok (.bipush 24, 2) := by decide +kernel
theorem d_Mo_findEnds_34 : decode c_Mo_findEnds 34 = .ok (.iload_n 1, 1) := by decide +kernel
theorem d_Mo_findEnds_35 : decode c_Mo_findEnds 35 = .ok (.imul, 1) := by decide +kernel
theorem d_Mo_findEnds_36 : decode c_Mo_findEnds 36 = .ok (.iload_n 3, 1) := by decide +kernel
theorem d_Mo_findEnds_37 : decode c_Mo_findEnds 37 = .ok (.iadd, 1) := by decide +kernel
theorem d_Mo_findEnds_38 : decode c_Mo_findEnds 38 = .ok (.baload, 1) := by decide +kernel
theorem d_Mo_findEnds_39 : decode c_Mo_findEnds 39 = .ok (.ifCond .ne 103, 3) := by decide +kernel
theorem d_Mo_findEnds_42 : decode c_Mo_findEnds 42 = .ok (.aload_n 0, 1) := by decide +kernel
theorem d_Mo_findEnds_43 : decode c_Mo_findEnds 43 = .ok (.iload_n 1, 1) := by decide +kernel
theorem d_Mo_findEnds_44 : decode c_Mo_findEnds 44 = .ok (.iload_n 3, 1) := by decide +kernel
theorem d_Mo_findEnds_45 : decode c_Mo_findEnds 45 = .ok (.invokevirtual 88, 3) := by decide +kernel
theorem d_Mo_findEnds_48 : decode c_Mo_findEnds 48 = .ok (.istore 4, 2) := by decide +kernel
theorem d_Mo_findEnds_50 : decode c_Mo_findEnds 50 = .ok (.iload_n 3, 1) := by decide +kernel
theorem d_Mo_findEnds_51 : decode c_Mo_findEnds 51 = .ok (.iload 4, 2) := by decide +kernel
theorem d_Mo_findEnds_53 : decode c_Mo_findEnds 53 = .ok (.bipush 36, 2) := by decide +kernel
theorem d_Mo_findEnds_55 : decode c_Mo_findEnds 55 = .ok (.if_icmp .eq 10, 3) := by decide +kernel
theorem d_Mo_findEnds_58 : decode c_Mo_findEnds 58 = .ok (.iload 4, 2) := by decide +kernel
theorem d_Mo_findEnds_60 : decode c_Mo_findEnds 60 = .ok (.bipush 33, 2) := by decide +kernel
theorem d_Mo_findEnds_62 : decode c_Mo_findEnds 62 = .ok (.if_icmp .ne 7, 3) := by decide +kernel
theorem d_Mo_findEnds_65 : decode c_Mo_findEnds 65 = .ok (.iconst 2, 1) := by decide +kernel
theorem d_Mo_findEnds_66 : decode c_Mo_findEnds 66 = .ok (.goto 4, 3) := by decide +kernel
theorem d_Mo_findEnds_69 : decode c_Mo_findEnds 69 = .ok (.iconst 1, 1) := by decide +kernel
theorem d_Mo_findEnds_70 : decode c_Mo_findEnds 70 = .ok (.iadd, 1) := by decide +kernel
theorem d_Mo_findEnds_71 : decode c_Mo_findEnds 71 = .ok (.istore 5, 2) := by decide +kernel
theorem d_Mo_findEnds_73 : decode c_Mo_findEnds 73 = .ok (.iconst 0, 1) := by decide +kernel
theorem d_Mo_findEnds_74 : decode c_Mo_findEnds 74 = .ok (.istore 6, 2) := by decide +kernel
theorem d_Mo_findEnds_76 : decode c_Mo_findEnds 76 = .ok (.iload 6, 2) := by decide +kernel
theorem d_Mo_findEnds_78 : decode c_Mo_findEnds 78 = .ok (.iload 4, 2) := by decide +kernel
theorem d_Mo_findEnds_80 : decode c_Mo_findEnds 80 = .ok (.invokestatic 120, 3) := by decide +kernel
theorem d_Mo_findEnds_83 : decode c_Mo_findEnds 83 = .ok (.if_icmp .ge 46, 3) := by decide +kernel
theorem d_Mo_findEnds_86 : decode c_Mo_findEnds 86 = .ok (.iload 4, 2) := by decide +kernel
theorem d_Mo_findEnds_88 : decode c_Mo_findEnds 88 = .ok (.bipush 35, 2) := by decide +kernel
theorem d_Mo_findEnds_90 : decode c_Mo_findEnds 90 = .ok (.if_icmp .ne 15, 3) := by decide +kernel
theorem d_Mo_findEnds_93 : decode c_Mo_findEnds 93 = .ok (.iload 6, 2) := by decide +kernel
theorem d_Mo_findEnds_95 : decode c_Mo_findEnds 95 = .ok (.ifCond .le 10, 3) := by decide +kernel
theorem d_Mo_findEnds_98 : decode c_Mo_findEnds 98 = .ok (.iload 5, 2) := by decide +kernel
theorem d_Mo_findEnds_100 : decode c_Mo_findEnds 100 = .ok (.iconst 1, 1) := by decide +kernel
theorem d_Mo_findEnds_101 : decode c_Mo_findEnds 101 = .ok (.iadd, 1) := by decide +kernel
theorem d_Mo_findEnds_102 : decode c_Mo_findEnds 102 = .ok (.goto 5, 3) := by decide +kernel
theorem d_Mo_findEnds_105 : decode c_Mo_findEnds 105 = .ok (.iload 5, 2) := by decide +kernel
theorem d_Mo_findEnds_107 : decode c_Mo_findEnds 107 = .ok (.istore 5, 2) := by decide +kernel
theorem d_Mo_findEnds_109 : decode c_Mo_findEnds 109 = .ok (.aload_n 0, 1) := by decide +kernel
theorem d_Mo_findEnds_110 : decode c_Mo_findEnds 110 = .ok (.getfield 23, 3) := by decide +kernel
theorem d_Mo_findEnds_113 : decode c_Mo_findEnds 113 = .ok (.bipush 24, 2) := by decide +kernel
theorem d_Mo_findEnds_115 : decode c_Mo_findEnds 115 = .ok (.iload_n 1, 1) := by decide +kernel
theorem d_Mo_findEnds_116 : decode c_Mo_findEnds 116 = .ok (.imul, 1) := by decide +kernel
theorem d_Mo_findEnds_117 : decode c_Mo_findEnds 117 = .ok (.iload 5, 2) := by decide +kernel
theorem d_Mo_findEnds_119 : decode c_Mo_findEnds 119 = .ok (.iadd, 1) := by decide +kernel
theorem d_Mo_findEnds_120 : decode c_Mo_findEnds 120 = .ok (.iaload, 1) := by decide +kernel
theorem d_Mo_findEnds_121 : decode c_Mo_findEnds 121 = .ok (.istore 5, 2) := by decide +kernel
theorem d_Mo_findEnds_123 : decode c_Mo_findEnds 123 = .ok (.iinc 6 1, 3) := by decide +kernel
theorem d_Mo_findEnds_126 : decode c_Mo_findEnds 126 = .ok (.goto (-50), 3) := by decide +kernel
theorem d_Mo_findEnds_129 : decode c_Mo_findEnds 129 = .ok (.aload_n 0, 1) := by decide +kernel
theorem d_Mo_findEnds_130 : decode c_Mo_findEnds 130 = .ok (.getfield 23, 3) := by decide +kernel
theorem d_Mo_findEnds_133 : decode c_Mo_findEnds 133 = .ok (.bipush 24, 2) := by decide +kernel
theorem d_Mo_findEnds_135 : decode c_Mo_findEnds 135 = .ok (.iload_n 1, 1) := by decide +kernel
theorem d_Mo_findEnds_136 : decode c_Mo_findEnds 136 = .ok (.imul, 1) := by decide +kernel
theorem d_Mo_findEnds_137 : decode c_Mo_findEnds 137 = .ok (.iload_n 3, 1) := by decide +kernel
theorem d_Mo_findEnds_138 : decode c_Mo_findEnds 138 = .ok (.iadd, 1) := by decide +kernel
theorem d_Mo_findEnds_139 : decode c_Mo_findEnds 139 = .ok (.iload 5, 2) := by decide +kernel
theorem d_Mo_findEnds_141 : decode c_Mo_findEnds 141 = .ok (.iastore, 1) := by decide +kernel
theorem d_Mo_findEnds_142 : decode c_Mo_findEnds 142 = .ok (.iinc 3 (-1), 3) := by decide +kernel
theorem d_Mo_findEnds_145 : decode c_Mo_findEnds 145 = .ok (.goto (-122), 3) := by decide +kernel
theorem d_Mo_findEnds_148 : decode c_Mo_findEnds 148 = .ok (.return_, 1) := by decide +kernel
theorem d_Mo_isFunction_0 : decode c_Mo_isFunction 0 = .ok (.aload_n 0, 1) := by decide +kernel
theorem d_Mo_isFunction_1 : decode c_Mo_isFunction 1 = .ok (.getfield 30, 3) := by decide +kernel
theorem d_Mo_isFunction_4 : decode c_Mo_isFunction 4 = .ok (.iload_n 1, 1) := by decide +kernel
theorem d_Mo_isFunction_5 : decode c_Mo_isFunction 5 = .ok (.baload, 1) := by decide +kernel
theorem d_Mo_isFunction_6 : decode c_Mo_isFunction 6 = .ok (.ifCond .eq 21, 3) := by decide +kernel
theorem d_Mo_isFunction_9 : decode c_Mo_isFunction 9 = .ok (.aload_n 0, 1) := by decide +kernel
theorem d_Mo_isFunction_10 : decode c_Mo_isFunction 10 = .ok (.getfield 13, 3) := by decide +kernel
theorem d_Mo_isFunction_13 : decode c_Mo_isFunction 13 = .ok (.bipush 24, 2) := by decide +kernel
theorem d_Mo_isFunction_15 : decode c_Mo_isFunction 15 = .ok (.iload_n 1, 1) := by decide +kernel
theorem d_Mo_isFunction_16 : decode c_Mo_isFunction 16 = .ok (.imul, 1) := by decide +kernel
theorem d_Mo_isFunction_17 : decode c_Mo_isFunction 17 = .ok (.caload, 1) := by decide +kernel
theorem d_Mo_isFunction_18 : decode c_Mo_isFunction 18 = .ok (.bipush 92, 2) := by decide +kernel
theorem d_Mo_isFunction_20 : decode c_Mo_isFunction 20 = .ok (.if_icmp .ne 7, 3) := by decide +kernel
theorem d_Mo_isFunction_23 : decode c_Mo_isFunction 23 = .ok (.iconst 1, 1) := by decide +kernel
theorem d_Mo_isFunction_24 : decode c_Mo_isFunction 24 = .ok (.goto 4, 3) := by decide +kernel
theorem d_Mo_isFunction_27 : decode c_Mo_isFunction 27 = .ok (.iconst 0, 1) := by decide +kernel
theorem d_Mo_isFunction_28 : decode c_Mo_isFunction 28 = .ok (.ireturn, 1) := by decide +kernel
theorem d_Mo_operands_0 : decode c_Mo_operands 0 = .ok (.iload_n 0, 1) := by decide +kernel
theorem d_Mo_operands_1 : decode c_Mo_operands 1 = .ok (.invokestatic 109, 3) := by decide +kernel
theorem d_Mo_operands_4 : decode c_Mo_operands 4 = .ok (.ifCond .ne 9, 3) := by decide +kernel
theorem d_Mo_operands_7 : decode c_Mo_operands 7 = .ok (.iload_n 0, 1) := by decide +kernel
theorem d_Mo_operands_8 : decode c_Mo_operands 8 = .ok (.bipush 36, 2) := by decide +kernel
theorem d_Mo_operands_10 : decode c_Mo_operands 10 = .ok (.if_icmp .ne 7, 3) := by decide +kernel
theorem d_Mo_operands_13 : decode c_Mo_operands 13 = .ok (.iconst 2, 1) := by decide +kernel
theorem d_Mo_operands_14 : decode c_Mo_operands 14 = .ok (.goto 36, 3) := by decide +kernel
theorem d_Mo_operands_17 : decode c_Mo_operands 17 = .ok (.iload_n 0, 1) := by decide +kernel
theorem d_Mo_operands_18 : decode c_Mo_operands 18 = .ok (.bipush 126, 2) := by decide +kernel
theorem d_Mo_operands_20 : decode c_Mo_operands 20 = .ok (.if_icmp .eq 9, 3) := by decide +kernel
theorem d_Mo_operands_23 : decode c_Mo_operands 23 = .ok (.iload_n 0, 1) := by decide +kernel
theorem d_Mo_operands_24 : decode c_Mo_operands 24 = .ok (.bipush 33, 2) := by decide +kernel
theorem d_Mo_operands_26 : decode c_Mo_operands 26 = .ok (.if_icmp .ne 7, 3) := by decide +kernel
theorem d_Mo_operands_29 : decode c_Mo_operands 29 = .ok (.iconst 1, 1) := by decide +kernel
theorem d_Mo_operands_30 : decode c_Mo_operands 30 = .ok (.goto 20, 3) := by decide +kernel
theorem d_Mo_operands_33 : decode c_Mo_operands 33 = .ok (.iload_n 0, 1) := by decide +kernel
theorem d_Mo_operands_34 : decode c_Mo_operands 34 = .ok (.bipush 63, 2) := by decide +kernel
theorem d_Mo_operands_36 : decode c_Mo_operands 36 = .ok (.if_icmp .eq 9, 3) := by decide +kernel
theorem d_Mo_operands_39 : decode c_Mo_operands 39 = .ok (.iload_n 0, 1) := by decide +kernel
theorem d_Mo_operands_40 : decode c_Mo_operands 40 = .ok (.bipush 35, 2) := by decide +kernel
theorem d_Mo_operands_42 : decode c_Mo_operands 42 = .ok (.if_icmp .ne 7, 3) := by decide +kernel
theorem d_Mo_operands_45 : decode c_Mo_operands 45 = .ok (.iconst 3, 1) := by decide +kernel
theorem d_Mo_operands_46 : decode c_Mo_operands 46 = .ok (.goto 4, 3) := by decide +kernel
theorem d_Mo_operands_49 : decode c_Mo_operands 49 = .ok (.iconst 0, 1) := by decide +kernel
theorem d_Mo_operands_50 : decode c_Mo_operands 50 = .ok (.ireturn, 1) := by decide +kernel
theorem d_Mo_becomes_0 : decode c_Mo_becomes 0 = .ok (.iload_n 2, 1) := by decide +kernel
theorem d_Mo_becomes_1 : decode c_Mo_becomes 1 = .ok (.ifCond .lt 9, 3) := by decide +kernel
theorem d_Mo_becomes_4 : decode c_Mo_becomes 4 = .ok (.iconst 1, 1) := by decide +kernel
theorem d_Mo_becomes_5 : decode c_Mo_becomes 5 = .ok (.iload_n 2, 1) := by decide +kernel
theorem d_Mo_becomes_6 : decode c_Mo_becomes 6 = .ok (.ishl, 1) := by decide +kernel
theorem d_Mo_becomes_7 : decode c_Mo_becomes 7 = .ok (.goto 4, 3) := by decide +kernel
theorem d_Mo_becomes_10 : decode c_Mo_becomes 10 = .ok (.iconst 0, 1) := by decide +kernel
theorem d_Mo_becomes_11 : decode c_Mo_becomes 11 = .ok (.aload_n 0, 1) := by decide +kernel
theorem d_Mo_becomes_12 : decode c_Mo_becomes 12 = .ok (.iload_n 1, 1) := by decide +kernel
theorem d_Mo_becomes_13 : decode c_Mo_becomes 13 = .ok (.invokevirtual 124, 3) := by decide +kernel
theorem d_Mo_becomes_16 : decode c_Mo_becomes 16 = .ok (.ifCond .eq 14, 3) := by decide +kernel
theorem d_Mo_becomes_19 : decode c_Mo_becomes 19 = .ok (.iconst 1, 1) := by decide +kernel
theorem d_Mo_becomes_20 : decode c_Mo_becomes 20 = .ok (.aload_n 0, 1) := by decide +kernel
theorem d_Mo_becomes_21 : decode c_Mo_becomes 21 = .ok (.getfield 20, 3) := by decide +kernel
theorem d_Mo_becomes_24 : decode c_Mo_becomes 24 = .ok (.iload_n 1, 1) := by decide +kernel
theorem d_Mo_becomes_25 : decode c_Mo_becomes 25 = .ok (.iaload, 1) := by decide +kernel
theorem d_Mo_becomes_26 : decode c_Mo_becomes 26 = .ok (.ishl, 1) := by decide +kernel
theorem d_Mo_becomes_27 : decode c_Mo_becomes 27 = .ok (.goto 4, 3) := by decide +kernel
theorem d_Mo_becomes_30 : decode c_Mo_becomes 30 = .ok (.iconst 0, 1) := by decide +kernel
theorem d_Mo_becomes_31 : decode c_Mo_becomes 31 = .ok (.ior, 1) := by decide +kernel
theorem d_Mo_becomes_32 : decode c_Mo_becomes 32 = .ok (.istore_n 3, 1) := by decide +kernel
theorem d_Mo_becomes_33 : decode c_Mo_becomes 33 = .ok (.aload_n 0, 1) := by decide +kernel
theorem d_Mo_becomes_34 : decode c_Mo_becomes 34 = .ok (.iload_n 1, 1) := by decide +kernel
theorem d_Mo_becomes_35 : decode c_Mo_becomes 35 = .ok (.invokevirtual 124, 3) := by decide +kernel
theorem d_Mo_becomes_38 : decode c_Mo_becomes 38 = .ok (.ifCond .eq 9, 3) := by decide +kernel
theorem d_Mo_becomes_41 : decode c_Mo_becomes 41 = .ok (.iconst 1, 1) := by decide +kernel
theorem d_Mo_becomes_42 : decode c_Mo_becomes 42 = .ok (.iload_n 1, 1) := by decide +kernel
theorem d_Mo_becomes_43 : decode c_Mo_becomes 43 = .ok (.ishl, 1) := by decide +kernel
theorem d_Mo_becomes_44 : decode c_Mo_becomes 44 = .ok (.goto 4, 3) := by decide +kernel
theorem d_Mo_becomes_47 : decode c_Mo_becomes 47 = .ok (.iconst 0, 1) := by decide +kernel
theorem d_Mo_becomes_48 : decode c_Mo_becomes 48 = .ok (.istore 4, 2) := by decide +kernel
theorem d_Mo_becomes_50 : decode c_Mo_becomes 50 = .ok (.iconst 0, 1) := by decide +kernel
theorem d_Mo_becomes_51 : decode c_Mo_becomes 51 = .ok (.istore 5, 2) := by decide +kernel
theorem d_Mo_becomes_53 : decode c_Mo_becomes 53 = .ok (.iload 5, 2) := by decide +kernel
theorem d_Mo_becomes_55 : decode c_Mo_becomes 55 = .ok (.bipush 10, 2) := by decide +kernel
theorem d_Mo_becomes_57 : decode c_Mo_becomes 57 = .ok (.if_icmp .ge 71, 3) := by decide +kernel
theorem d_Mo_becomes_60 : decode c_Mo_becomes 60 = .ok (.aload_n 0, 1) := by decide +kernel
theorem d_Mo_becomes_61 : decode c_Mo_becomes 61 = .ok (.iload 5, 2) := by decide +kernel
theorem d_Mo_becomes_63 : decode c_Mo_becomes 63 = .ok (.invokevirtual 124, 3) := by decide +kernel
theorem d_Mo_becomes_66 : decode c_Mo_becomes 66 = .ok (.ifCond .eq 34, 3) := by decide +kernel
theorem d_Mo_becomes_69 : decode c_Mo_becomes 69 = .ok (.iload_n 3, 1) := by decide +kernel
theorem d_Mo_becomes_70 : decode c_Mo_becomes 70 = .ok (.aload_n 0, 1) := by decide +kernel
theorem d_Mo_becomes_71 : decode c_Mo_becomes 71 = .ok (.getfield 20, 3) := by decide +kernel
theorem d_Mo_becomes_74 : decode c_Mo_becomes 74 = .ok (.iload 5, 2) := by decide +kernel
theorem d_Mo_becomes_76 : decode c_Mo_becomes 76 = .ok (.iaload, 1) := by decide +kernel
theorem d_Mo_becomes_77 : decode c_Mo_becomes 77 = .ok (.ishr, 1) := by decide +kernel
theorem d_Mo_becomes_78 : decode c_Mo_becomes 78 = .ok (.iconst 1, 1) := by decide +kernel
theorem d_Mo_becomes_79 : decode c_Mo_becomes 79 = .ok (.iand, 1) := by decide +kernel
theorem d_Mo_becomes_80 : decode c_Mo_becomes 80 = .ok (.iconst 1, 1) := by decide +kernel
theorem d_Mo_becomes_81 : decode c_Mo_becomes 81 = .ok (.if_icmp .eq 15, 3) := by decide +kernel
theorem d_Mo_becomes_84 : decode c_Mo_becomes 84 = .ok (.aload_n 0, 1) := by decide +kernel
theorem d_Mo_becomes_85 : decode c_Mo_becomes 85 = .ok (.getfield 33, 3) := by decide +kernel
theorem d_Mo_becomes_88 : decode c_Mo_becomes 88 = .ok (.iload 5, 2) := by decide +kernel
theorem d_Mo_becomes_90 : decode c_Mo_becomes 90 = .ok (.iaload, 1) := by decide +kernel
theorem d_Mo_becomes_91 : decode c_Mo_becomes 91 = .ok (.iload_n 3, 1) := by decide +kernel
theorem d_Mo_becomes_92 : decode c_Mo_becomes 92 = .ok (.iand, 1) := by decide +kernel
theorem d_Mo_becomes_93 : decode c_Mo_becomes 93 = .ok (.ifCond .eq 7, 3) := by decide +kernel
theorem d_Mo_becomes_96 : decode c_Mo_becomes 96 = .ok (.iconst 1, 1) := by decide +kernel
theorem d_Mo_becomes_97 : decode c_Mo_becomes 97 = .ok (.goto 4, 3) := by decide +kernel
theorem d_Mo_becomes_100 : decode c_Mo_becomes 100 = .ok (.iconst 0, 1) := by decide +kernel
theorem d_Mo_becomes_101 : decode c_Mo_becomes 101 = .ok (.istore 6, 2) := by decide +kernel
theorem d_Mo_becomes_103 : decode c_Mo_becomes 103 = .ok (.iload 6, 2) := by decide +kernel
theorem d_Mo_becomes_105 : decode c_Mo_becomes 105 = .ok (.ifCond .eq 13, 3) := by decide +kernel
theorem d_Mo_becomes_108 : decode c_Mo_becomes 108 = .ok (.iload 4, 2) := by decide +kernel
theorem d_Mo_becomes_110 : decode c_Mo_becomes 110 = .ok (.iconst 1, 1) := by decide +kernel
theorem d_Mo_becomes_111 : decode c_Mo_becomes 111 = .ok (.iload 5, 2) := by decide +kernel
theorem d_Mo_becomes_113 : decode c_Mo_becomes 113 = .ok (.ishl, 1) := by decide +kernel
theorem d_Mo_becomes_114 : decode c_Mo_becomes 114 = .ok (.ior, 1) := by decide +kernel
theorem d_Mo_becomes_115 : decode c_Mo_becomes 115 = .ok (.goto 5, 3) := by decide +kernel
theorem d_Mo_becomes_118 : decode c_Mo_becomes 118 = .ok (.iload 4, 2) := by decide +kernel
theorem d_Mo_becomes_120 : decode c_Mo_becomes 120 = .ok (.istore 4, 2) := by decide +kernel
theorem d_Mo_becomes_122 : decode c_Mo_becomes 122 = .ok (.iinc 5 1, 3) := by decide +kernel
theorem d_Mo_becomes_125 : decode c_Mo_becomes 125 = .ok (.goto (-72), 3) := by decide +kernel
theorem d_Mo_becomes_128 : decode c_Mo_becomes 128 = .ok (.iconst 0, 1) := by decide +kernel
theorem d_Mo_becomes_129 : decode c_Mo_becomes 129 = .ok (.istore 5, 2) := by decide +kernel
theorem d_Mo_becomes_131 : decode c_Mo_becomes 131 = .ok (.iload 5, 2) := by decide +kernel
theorem d_Mo_becomes_133 : decode c_Mo_becomes 133 = .ok (.bipush 10, 2) := by decide +kernel
theorem d_Mo_becomes_135 : decode c_Mo_becomes 135 = .ok (.if_icmp .ge 86, 3) := by decide +kernel
theorem d_Mo_becomes_138 : decode c_Mo_becomes 138 = .ok (.iconst 0, 1) := by decide +kernel
theorem d_Mo_becomes_139 : decode c_Mo_becomes 139 = .ok (.istore 6, 2) := by decide +kernel
theorem d_Mo_becomes_141 : decode c_Mo_becomes 141 = .ok (.iload 6, 2) := by decide +kernel
theorem d_Mo_becomes_143 : decode c_Mo_becomes 143 = .ok (.bipush 10, 2) := by decide +kernel
theorem d_Mo_becomes_145 : decode c_Mo_becomes 145 = .ok (.if_icmp .ge 70, 3) := by decide +kernel
theorem d_Mo_becomes_148 : decode c_Mo_becomes 148 = .ok (.iconst 0, 1) := by decide +kernel
theorem d_Mo_becomes_149 : decode c_Mo_becomes 149 = .ok (.istore 7, 2) := by decide +kernel
theorem d_Mo_becomes_151 : decode c_Mo_becomes 151 = .ok (.iload 7, 2) := by decide +kernel
theorem d_Mo_becomes_153 : decode c_Mo_becomes 153 = .ok (.bipush 10, 2) := by decide +kernel
theorem d_Mo_becomes_155 : decode c_Mo_becomes 155 = .ok (.if_icmp .ge 54, 3) := by decide +kernel
theorem d_Mo_becomes_158 : decode c_Mo_becomes 158 = .ok (.iload 4, 2) := by decide +kernel
theorem d_Mo_becomes_160 : decode c_Mo_becomes 160 = .ok (.iload 6, 2) := by decide +kernel
theorem d_Mo_becomes_162 : decode c_Mo_becomes 162 = .ok (.ishr, 1) := by decide +kernel
theorem d_Mo_becomes_163 : decode c_Mo_becomes 163 = .ok (.iconst 1, 1) := by decide +kernel
theorem d_Mo_becomes_164 : decode c_Mo_becomes 164 = .ok (.iand, 1) := by decide +kernel
theorem d_Mo_becomes_165 : decode c_Mo_becomes 165 = .ok (.iconst 1, 1) := by decide +kernel
theorem d_Mo_becomes_166 : decode c_Mo_becomes 166 = .ok (.if_icmp .ne 43, 3) := by decide +kernel
theorem d_Mo_becomes_169 : decode c_Mo_becomes 169 = .ok (.aload_n 0, 1) := by decide +kernel
theorem d_Mo_becomes_170 : decode c_Mo_becomes 170 = .ok (.iload 7, 2) := by decide +kernel
theorem d_Mo_becomes_172 : decode c_Mo_becomes 172 = .ok (.invokevirtual 124, 3) := by decide +kernel
theorem d_Mo_becomes_175 : decode c_Mo_becomes 175 = .ok (.ifCond .eq 24, 3) := by decide +kernel
theorem d_Mo_becomes_178 : decode c_Mo_becomes 178 = .ok (.aload_n 0, 1) := by decide +kernel
theorem d_Mo_becomes_179 : decode c_Mo_becomes 179 = .ok (.iload 7, 2) := by decide +kernel
theorem d_Mo_becomes_181 : decode c_Mo_becomes 181 = .ok (.iload 6, 2) := by decide +kernel
theorem d_Mo_becomes_183 : decode c_Mo_becomes 183 = .ok (.invokevirtual 127, 3) := by decide +kernel
theorem d_Mo_becomes_186 : decode c_Mo_becomes 186 = .ok (.ifCond .eq 13, 3) := by decide +kernel
theorem d_Mo_becomes_189 : decode c_Mo_becomes 189 = .ok (.iload 4, 2) := by decide +kernel
theorem d_Mo_becomes_191 : decode c_Mo_becomes 191 = .ok (.iconst 1, 1) := by decide +kernel
theorem d_Mo_becomes_192 : decode c_Mo_becomes 192 = .ok (.iload 7, 2) := by decide +kernel
theorem d_Mo_becomes_194 : decode c_Mo_becomes 194 = .ok (.ishl, 1) := by decide +kernel
theorem d_Mo_becomes_195 : decode c_Mo_becomes 195 = .ok (.ior, 1) := by decide +kernel
theorem d_Mo_becomes_196 : decode c_Mo_becomes 196 = .ok (.goto 5, 3) := by decide +kernel
theorem d_Mo_becomes_199 : decode c_Mo_becomes 199 = .ok (.iload 4, 2) := by decide +kernel
theorem d_Mo_becomes_201 : decode c_Mo_becomes 201 = .ok (.istore 4, 2) := by decide +kernel
theorem d_Mo_becomes_203 : decode c_Mo_becomes 203 = .ok (.iinc 7 1, 3) := by decide +kernel
theorem d_Mo_becomes_206 : decode c_Mo_becomes 206 = .ok (.goto (-55), 3) := by decide +kernel
theorem d_Mo_becomes_209 : decode c_Mo_becomes 209 = .ok (.iinc 6 1, 3) := by decide +kernel
theorem d_Mo_becomes_212 : decode c_Mo_becomes 212 = .ok (.goto (-71), 3) := by decide +kernel
theorem d_Mo_becomes_215 : decode c_Mo_becomes 215 = .ok (.iinc 5 1, 3) := by decide +kernel
theorem d_Mo_becomes_218 : decode c_Mo_becomes 218 = .ok (.goto (-87), 3) := by decide +kernel
theorem d_Mo_becomes_221 : decode c_Mo_becomes 221 = .ok (.iconst 0, 1) := by decide +kernel
theorem d_Mo_becomes_222 : decode c_Mo_becomes 222 = .ok (.istore 5, 2) := by decide +kernel
theorem d_Mo_becomes_224 : decode c_Mo_becomes 224 = .ok (.iload 5, 2) := by decide +kernel
theorem d_Mo_becomes_226 : decode c_Mo_becomes 226 = .ok (.bipush 10, 2) := by decide +kernel
theorem d_Mo_becomes_228 : decode c_Mo_becomes 228 = .ok (.if_icmp .ge 51, 3) := by decide +kernel
theorem d_Mo_becomes_231 : decode c_Mo_becomes 231 = .ok (.aload_n 0, 1) := by decide +kernel
theorem d_Mo_becomes_232 : decode c_Mo_becomes 232 = .ok (.getfield 36, 3) := by decide +kernel
theorem d_Mo_becomes_235 : decode c_Mo_becomes 235 = .ok (.iload 5, 2) := by decide +kernel
theorem d_Mo_becomes_237 : decode c_Mo_becomes 237 = .ok (.aload_n 0, 1) := by decide +kernel
theorem d_Mo_becomes_238 : decode c_Mo_becomes 238 = .ok (.iload 5, 2) := by decide +kernel
theorem d_Mo_becomes_240 : decode c_Mo_becomes 240 = .ok (.invokevirtual 124, 3) := by decide +kernel
theorem d_Mo_becomes_243 : decode c_Mo_becomes 243 = .ok (.ifCond .eq 28, 3) := by decide +kernel
theorem d_Mo_becomes_246 : decode c_Mo_becomes 246 = .ok (.aload_n 0, 1) := by decide +kernel
theorem d_Mo_becomes_247 : decode c_Mo_becomes 247 = .ok (.getfield 36, 3) := by decide +kernel
theorem d_Mo_becomes_250 : decode c_Mo_becomes 250 = .ok (.iload 5, 2) := by decide +kernel
theorem d_Mo_becomes_252 : decode c_Mo_becomes 252 = .ok (.baload, 1) := by decide +kernel
theorem d_Mo_becomes_253 : decode c_Mo_becomes 253 = .ok (.ifCond .ne 14, 3) := by decide +kernel
theorem d_Mo_becomes_256 : decode c_Mo_becomes 256 = .ok (.iload 4, 2) := by decide +kernel
theorem d_Mo_becomes_258 : decode c_Mo_becomes 258 = .ok (.iload 5, 2) := by decide +kernel
theorem d_Mo_becomes_260 : decode c_Mo_becomes 260 = .ok (.ishr, 1) := by decide +kernel
theorem d_Mo_becomes_261 : decode c_Mo_becomes 261 = .ok (.iconst 1, 1) := by decide +kernel
theorem d_Mo_becomes_262 : decode c_Mo_becomes 262 = .ok (.iand, 1) := by decide +kernel
theorem d_Mo_becomes_263 : decode c_Mo_becomes 263 = .ok (.iconst 1, 1) := by decide +kernel
theorem d_Mo_becomes_264 : decode c_Mo_becomes 264 = .ok (.if_icmp .ne 7, 3) := by decide +kernel
theorem d_Mo_becomes_267 : decode c_Mo_becomes 267 = .ok (.iconst 1, 1) := by decide +kernel
theorem d_Mo_becomes_268 : decode c_Mo_becomes 268 = .ok (.goto 4, 3) := by decide +kernel
theorem d_Mo_becomes_271 : decode c_Mo_becomes 271 = .ok (.iconst 0, 1) := by decide +kernel
theorem d_Mo_becomes_272 : decode c_Mo_becomes 272 = .ok (.bastore, 1) := by decide +kernel
theorem d_Mo_becomes_273 : decode c_Mo_becomes 273 = .ok (.iinc 5 1, 3) := by decide +kernel
theorem d_Mo_becomes_276 : decode c_Mo_becomes 276 = .ok (.goto (-52), 3) := by decide +kernel
theorem d_Mo_becomes_279 : decode c_Mo_becomes 279 = .ok (.return_, 1) := by decide +kernel
theorem d_Mo_isThere_0 : decode c_Mo_isThere 0 = .ok (.aload_n 0, 1) := by decide +kernel
theorem d_Mo_isThere_1 : decode c_Mo_isThere 1 = .ok (.getfield 20, 3) := by decide +kernel
theorem d_Mo_isThere_4 : decode c_Mo_isThere 4 = .ok (.iload_n 1, 1) := by decide +kernel
theorem d_Mo_isThere_5 : decode c_Mo_isThere 5 = .ok (.iaload, 1) := by decide +kernel
theorem d_Mo_isThere_6 : decode c_Mo_isThere 6 = .ok (.ifCond .lt 7, 3) := by decide +kernel
theorem d_Mo_isThere_9 : decode c_Mo_isThere 9 = .ok (.iconst 1, 1) := by decide +kernel
theorem d_Mo_isThere_10 : decode c_Mo_isThere 10 = .ok (.goto 4, 3) := by decide +kernel
theorem d_Mo_isThere_13 : decode c_Mo_isThere 13 = .ok (.iconst 0, 1) := by decide +kernel
theorem d_Mo_isThere_14 : decode c_Mo_isThere 14 = .ok (.ireturn, 1) := by decide +kernel
theorem d_Mo_needs_0 : decode c_Mo_needs 0 = .ok (.aload_n 0, 1) := by decide +kernel
theorem d_Mo_needs_1 : decode c_Mo_needs 1 = .ok (.iload_n 2, 1) := by decide +kernel
theorem d_Mo_needs_2 : decode c_Mo_needs 2 = .ok (.invokevirtual 124, 3) := by decide +kernel
theorem d_Mo_needs_5 : decode c_Mo_needs 5 = .ok (.ifCond .eq 26, 3) := by decide +kernel
theorem d_Mo_needs_8 : decode c_Mo_needs 8 = .ok (.aload_n 0, 1) := by decide +kernel
theorem d_Mo_needs_9 : decode c_Mo_needs 9 = .ok (.getfield 33, 3) := by decide +kernel
theorem d_Mo_needs_12 : decode c_Mo_needs 12 = .ok (.iload_n 1, 1) := by decide +kernel
theorem d_Mo_needs_13 : decode c_Mo_needs 13 = .ok (.iaload, 1) := by decide +kernel
theorem d_Mo_needs_14 : decode c_Mo_needs 14 = .ok (.aload_n 0, 1) := by decide +kernel
theorem d_Mo_needs_15 : decode c_Mo_needs 15 = .ok (.getfield 20, 3) := by decide +kernel
theorem d_Mo_needs_18 : decode c_Mo_needs 18 = .ok (.iload_n 2, 1) := by decide +kernel
theorem d_Mo_needs_19 : decode c_Mo_needs 19 = .ok (.iaload, 1) := by decide +kernel
theorem d_Mo_needs_20 : decode c_Mo_needs 20 = .ok (.ishr, 1) := by decide +kernel
theorem d_Mo_needs_21 : decode c_Mo_needs 21 = .ok (.iconst 1, 1) := by decide +kernel
theorem d_Mo_needs_22 : decode c_Mo_needs 22 = .ok (.iand, 1) := by decide +kernel
theorem d_Mo_needs_23 : decode c_Mo_needs 23 = .ok (.iconst 1, 1) := by decide +kernel
theorem d_Mo_needs_24 : decode c_Mo_needs 24 = .ok (.if_icmp .ne 7, 3) := by decide +kernel
theorem d_Mo_needs_27 : decode c_Mo_needs 27 = .ok (.iconst 1, 1) := by decide +kernel
theorem d_Mo_needs_28 : decode c_Mo_needs 28 = .ok (.goto 4, 3) := by decide +kernel
theorem d_Mo_needs_31 : decode c_Mo_needs 31 = .ok (.iconst 0, 1) := by decide +kernel
theorem d_Mo_needs_32 : decode c_Mo_needs 32 = .ok (.ireturn, 1) := by decide +kernel
theorem d_Mo_remove_0 : decode c_Mo_remove 0 = .ok (.iload_n 1, 1) := by decide +kernel
theorem d_Mo_remove_1 : decode c_Mo_remove 1 = .ok (.invokestatic 138, 3) := by decide +kernel
theorem d_Mo_remove_4 : decode c_Mo_remove 4 = .ok (.ifCond .eq 11, 3) := by decide +kernel
theorem d_Mo_remove_7 : decode c_Mo_remove 7 = .ok (.aload_n 0, 1) := by decide +kernel
theorem d_Mo_remove_8 : decode c_Mo_remove 8 = .ok (.iload_n 1, 1) := by decide +kernel
theorem d_Mo_remove_9 : decode c_Mo_remove 9 = .ok (.invokevirtual 124, 3) := by decide +kernel
theorem d_Mo_remove_12 : decode c_Mo_remove 12 = .ok (.ifCond .ne 5, 3) := by decide +kernel
theorem d_Mo_remove_15 : decode c_Mo_remove 15 = .ok (.iconst 0, 1) := by decide +kernel
theorem d_Mo_remove_16 : decode c_Mo_remove 16 = .ok (.ireturn, 1) := by decide +kernel
theorem d_Mo_remove_17 : decode c_Mo_remove 17 = .ok (.aload_n 0, 1) := by decide +kernel
theorem d_Mo_remove_18 : decode c_Mo_remove 18 = .ok (.getfield 20, 3) := by decide +kernel
theorem d_Mo_remove_21 : decode c_Mo_remove 21 = .ok (.iload_n 1, 1) := by decide +kernel
theorem d_Mo_remove_22 : decode c_Mo_remove 22 = .ok (.iaload, 1) := by decide +kernel
theorem d_Mo_remove_23 : decode c_Mo_remove 23 = .ok (.istore_n 2, 1) := by decide +kernel
theorem d_Mo_remove_24 : decode c_Mo_remove 24 = .ok (.aload_n 0, 1) := by decide +kernel
theorem d_Mo_remove_25 : decode c_Mo_remove 25 = .ok (.getfield 20, 3) := by decide +kernel
theorem d_Mo_remove_28 : decode c_Mo_remove 28 = .ok (.iload_n 1, 1) := by decide +kernel
theorem d_Mo_remove_29 : decode c_Mo_remove 29 = .ok (.iconst (-1), 1) := by decide +kernel
theorem d_Mo_remove_30 : decode c_Mo_remove 30 = .ok (.iastore, 1) := by decide +kernel
theorem d_Mo_remove_31 : decode c_Mo_remove 31 = .ok (.aload_n 0, 1) := by decide +kernel
theorem d_Mo_remove_32 : decode c_Mo_remove 32 = .ok (.getfield 33, 3) := by decide +kernel
theorem d_Mo_remove_35 : decode c_Mo_remove 35 = .ok (.iload_n 1, 1) := by decide +kernel
theorem d_Mo_remove_36 : decode c_Mo_remove 36 = .ok (.iconst 0, 1) := by decide +kernel
theorem d_Mo_remove_37 : decode c_Mo_remove 37 = .ok (.iastore, 1) := by decide +kernel
theorem d_Mo_remove_38 : decode c_Mo_remove 38 = .ok (.aload_n 0, 1) := by decide +kernel
theorem d_Mo_remove_39 : decode c_Mo_remove 39 = .ok (.getfield 30, 3) := by decide +kernel
theorem d_Mo_remove_42 : decode c_Mo_remove 42 = .ok (.iload_n 1, 1) := by decide +kernel
theorem d_Mo_remove_43 : decode c_Mo_remove 43 = .ok (.iconst 0, 1) := by decide +kernel
theorem d_Mo_remove_44 : decode c_Mo_remove 44 = .ok (.bastore, 1) := by decide +kernel
theorem d_Mo_remove_45 : decode c_Mo_remove 45 = .ok (.aload_n 0, 1) := by decide +kernel
theorem d_Mo_remove_46 : decode c_Mo_remove 46 = .ok (.iload_n 1, 1) := by decide +kernel
theorem d_Mo_remove_47 : decode c_Mo_remove 47 = .ok (.iload_n 2, 1) := by decide +kernel
theorem d_Mo_remove_48 : decode c_Mo_remove 48 = .ok (.invokevirtual 147, 3) := by decide +kernel
theorem d_Mo_remove_51 : decode c_Mo_remove 51 = .ok (.iconst 1, 1) := by decide +kernel
theorem d_Mo_remove_52 : decode c_Mo_remove 52 = .ok (.ireturn, 1) := by decide +kernel
theorem d_Mo_work_0 : decode c_Mo_work 0 = .ok (.iload_n 1, 1) := by decide +kernel
theorem d_Mo_work_1 : decode c_Mo_work 1 = .ok (.ifCond .lt 9, 3) := by decide +kernel
theorem d_Mo_work_4 : decode c_Mo_work 4 = .ok (.iload_n 1, 1) := by decide +kernel
theorem d_Mo_work_5 : decode c_Mo_work 5 = .ok (.bipush 20, 2) := by decide +kernel
theorem d_Mo_work_7 : decode c_Mo_work 7 = .ok (.if_icmp .le 5, 3) := by decide +kernel
theorem d_Mo_work_10 : decode c_Mo_work 10 = .ok (.iconst (-1), 1) := by decide +kernel
theorem d_Mo_work_11 : decode c_Mo_work 11 = .ok (.ireturn, 1) := by decide +kernel
theorem d_Mo_work_12 : decode c_Mo_work 12 = .ok (.iconst 0, 1) := by decide +kernel
theorem d_Mo_work_13 : decode c_Mo_work 13 = .ok (.istore_n 2, 1) := by decide +kernel
theorem d_Mo_work_14 : decode c_Mo_work 14 = .ok (.iload_n 2, 1) := by decide +kernel
theorem d_Mo_work_15 : decode c_Mo_work 15 = .ok (.iload_n 1, 1) := by decide +kernel
theorem d_Mo_work_16 : decode c_Mo_work 16 = .ok (.if_icmp .ge 16, 3) := by decide +kernel
theorem d_Mo_work_19 : decode c_Mo_work 19 = .ok (.aload_n 0, 1) := by decide +kernel
theorem d_Mo_work_20 : decode c_Mo_work 20 = .ok (.invokevirtual 236, 3) := by decide +kernel
theorem d_Mo_work_23 : decode c_Mo_work 23 = .ok (.ifCond .eq 9, 3) := by decide +kernel
theorem d_Mo_work_26 : decode c_Mo_work 26 = .ok (.iinc 2 1, 3) := by decide +kernel
theorem d_Mo_work_29 : decode c_Mo_work 29 = .ok (.goto (-15), 3) := by decide +kernel
theorem d_Mo_work_32 : decode c_Mo_work 32 = .ok (.iload_n 2, 1) := by decide +kernel
theorem d_Mo_work_33 : decode c_Mo_work 33 = .ok (.ireturn, 1) := by decide +kernel
theorem d_Mo_workOnce_0 : decode c_Mo_workOnce 0 = .ok (.iconst 0, 1) := by decide +kernel
theorem d_Mo_workOnce_1 : decode c_Mo_workOnce 1 = .ok (.istore_n 1, 1) := by decide +kernel
theorem d_Mo_workOnce_2 : decode c_Mo_workOnce 2 = .ok (.iload_n 1, 1) := by decide +kernel
theorem d_Mo_workOnce_3 : decode c_Mo_workOnce 3 = .ok (.bipush 10, 2) := by decide +kernel
theorem d_Mo_workOnce_5 : decode c_Mo_workOnce 5 = .ok (.if_icmp .ge 17, 3) := by decide +kernel
theorem d_Mo_workOnce_8 : decode c_Mo_workOnce 8 = .ok (.aload_n 0, 1) := by decide +kernel
theorem d_Mo_workOnce_9 : decode c_Mo_workOnce 9 = .ok (.iload_n 1, 1) := by decide +kernel
theorem d_Mo_workOnce_10 : decode c_Mo_workOnce 10 = .ok (.invokevirtual 230, 3) := by decide +kernel
theorem d_Mo_workOnce_13 : decode c_Mo_workOnce 13 = .ok (.ifCond .ne 9, 3) := by decide +kernel
theorem d_Mo_workOnce_16 : decode c_Mo_workOnce 16 = .ok (.iinc 1 1, 3) := by decide +kernel
theorem d_Mo_workOnce_19 : decode c_Mo_workOnce 19 = .ok (.goto (-17), 3) := by decide +kernel
theorem d_Mo_workOnce_22 : decode c_Mo_workOnce 22 = .ok (.iload_n 1, 1) := by decide +kernel
theorem d_Mo_workOnce_23 : decode c_Mo_workOnce 23 = .ok (.bipush 10, 2) := by decide +kernel
theorem d_Mo_workOnce_25 : decode c_Mo_workOnce 25 = .ok (.if_icmp .ne 5, 3) := by decide +kernel
theorem d_Mo_workOnce_28 : decode c_Mo_workOnce 28 = .ok (.iconst 0, 1) := by decide +kernel
theorem d_Mo_workOnce_29 : decode c_Mo_workOnce 29 = .ok (.ireturn, 1) := by decide +kernel
theorem d_Mo_workOnce_30 : decode c_Mo_workOnce 30 = .ok (.aload_n 0, 1) := by decide +kernel
theorem d_Mo_workOnce_31 : decode c_Mo_workOnce 31 = .ok (.getfield 36, 3) := by decide +kernel
theorem d_Mo_workOnce_34 : decode c_Mo_workOnce 34 = .ok (.iload_n 1, 1) := by decide +kernel
theorem d_Mo_workOnce_35 : decode c_Mo_workOnce 35 = .ok (.iconst 0, 1) := by decide +kernel
theorem d_Mo_workOnce_36 : decode c_Mo_workOnce 36 = .ok (.bastore, 1) := by decide +kernel
theorem d_Mo_workOnce_37 : decode c_Mo_workOnce 37 = .ok (.aload_n 0, 1) := by decide +kernel
theorem d_Mo_workOnce_38 : decode c_Mo_workOnce 38 = .ok (.iload_n 1, 1) := by decide +kernel
theorem d_Mo_workOnce_39 : decode c_Mo_workOnce 39 = .ok (.invokevirtual 218, 3) := by decide +kernel
theorem d_Mo_workOnce_42 : decode c_Mo_workOnce 42 = .ok (.ifCond .ne 8, 3) := by decide +kernel
theorem d_Mo_workOnce_45 : decode c_Mo_workOnce 45 = .ok (.aload_n 0, 1) := by decide +kernel
theorem d_Mo_workOnce_46 : decode c_Mo_workOnce 46 = .ok (.iload_n 1, 1) := by decide +kernel
theorem d_Mo_workOnce_47 : decode c_Mo_workOnce 47 = .ok (.invokevirtual 233, 3) := by decide +kernel
theorem d_Mo_workOnce_50 : decode c_Mo_workOnce 50 = .ok (.iconst 1, 1) := by decide +kernel
theorem d_Mo_workOnce_51 : decode c_Mo_workOnce 51 = .ok (.ireturn, 1) := by decide +kernel
theorem d_Mo_isReady_0 : decode c_Mo_isReady 0 = .ok (.aload_n 0, 1) := by decide +kernel
theorem d_Mo_isReady_1 : decode c_Mo_isReady 1 = .ok (.iload_n 1, 1) := by decide +kernel
theorem d_Mo_isReady_2 : decode c_Mo_isReady 2 = .ok (.invokevirtual 124, 3) := by decide +kernel
theorem d_Mo_isReady_5 : decode c_Mo_isReady 5 = .ok (.ifCond .eq 12, 3) := by decide +kernel
theorem d_Mo_isReady_8 : decode c_Mo_isReady 8 = .ok (.aload_n 0, 1) := by decide +kernel
theorem d_Mo_isReady_9 : decode c_Mo_isReady 9 = .ok (.getfield 36, 3) := by decide +kernel
theorem d_Mo_isReady_12 : decode c_Mo_isReady 12 = .ok (.iload_n 1, 1) := by decide +kernel
theorem d_Mo_isReady_13 : decode c_Mo_isReady 13 = .ok (.baload, 1) := by decide +kernel
theorem d_Mo_isReady_14 : decode c_Mo_isReady 14 = .ok (.ifCond .ne 5, 3) := by decide +kernel
theorem d_Mo_isReady_17 : decode c_Mo_isReady 17 = .ok (.iconst 0, 1) := by decide +kernel
theorem d_Mo_isReady_18 : decode c_Mo_isReady 18 = .ok (.ireturn, 1) := by decide +kernel
theorem d_Mo_isReady_19 : decode c_Mo_isReady 19 = .ok (.aload_n 0, 1) := by decide +kernel
theorem d_Mo_isReady_20 : decode c_Mo_isReady 20 = .ok (.iload_n 1, 1) := by decide +kernel
theorem d_Mo_isReady_21 : decode c_Mo_isReady 21 = .ok (.invokevirtual 218, 3) := by decide +kernel
theorem d_Mo_isReady_24 : decode c_Mo_isReady 24 = .ok (.ifCond .eq 5, 3) := by decide +kernel
theorem d_Mo_isReady_27 : decode c_Mo_isReady 27 = .ok (.iconst 1, 1) := by decide +kernel
theorem d_Mo_isReady_28 : decode c_Mo_isReady 28 = .ok (.ireturn, 1) := by decide +kernel
theorem d_Mo_isReady_29 : decode c_Mo_isReady 29 = .ok (.iconst 0, 1) := by decide +kernel
theorem d_Mo_isReady_30 : decode c_Mo_isReady 30 = .ok (.istore_n 2, 1) := by decide +kernel
theorem d_Mo_isReady_31 : decode c_Mo_isReady 31 = .ok (.iconst 0, 1) := by decide +kernel
theorem d_Mo_isReady_32 : decode c_Mo_isReady 32 = .ok (.istore_n 3, 1) := by decide +kernel
theorem d_Mo_isReady_33 : decode c_Mo_isReady 33 = .ok (.iload_n 3, 1) := by decide +kernel
theorem d_Mo_isReady_34 : decode c_Mo_isReady 34 = .ok (.bipush 10, 2) := by decide +kernel
theorem d_Mo_isReady_36 : decode c_Mo_isReady 36 = .ok (.if_icmp .ge 42, 3) := by decide +kernel
theorem d_Mo_isReady_39 : decode c_Mo_isReady 39 = .ok (.iload_n 2, 1) := by decide +kernel
theorem d_Mo_isReady_40 : decode c_Mo_isReady 40 = .ok (.ifCond .ne 26, 3) := by decide +kernel
theorem d_Mo_isReady_43 : decode c_Mo_isReady 43 = .ok (.iload_n 3, 1) := by decide +kernel
theorem d_Mo_isReady_44 : decode c_Mo_isReady 44 = .ok (.iload_n 1, 1) := by decide +kernel
theorem d_Mo_isReady_45 : decode c_Mo_isReady 45 = .ok (.if_icmp .eq 25, 3) := by decide +kernel
theorem d_Mo_isReady_48 : decode c_Mo_isReady 48 = .ok (.aload_n 0, 1) := by decide +kernel
theorem d_Mo_isReady_49 : decode c_Mo_isReady 49 = .ok (.iload_n 1, 1) := by decide +kernel
theorem d_Mo_isReady_50 : decode c_Mo_isReady 50 = .ok (.iload_n 3, 1) := by decide +kernel
theorem d_Mo_isReady_51 : decode c_Mo_isReady 51 = .ok (.invokevirtual 127, 3) := by decide +kernel
theorem d_Mo_isReady_54 : decode c_Mo_isReady 54 = .ok (.ifCond .eq 16, 3) := by decide +kernel
theorem d_Mo_isReady_57 : decode c_Mo_isReady 57 = .ok (.aload_n 0, 1) := by decide +kernel
theorem d_Mo_isReady_58 : decode c_Mo_isReady 58 = .ok (.getfield 36, 3) := by decide +kernel
theorem d_Mo_isReady_61 : decode c_Mo_isReady 61 = .ok (.iload_n 3, 1) := by decide +kernel
theorem d_Mo_isReady_62 : decode c_Mo_isReady 62 = .ok (.baload, 1) := by decide +kernel
theorem d_Mo_isReady_63 : decode c_Mo_isReady 63 = .ok (.ifCond .eq 7, 3) := by decide +kernel
theorem d_Mo_isReady_66 : decode c_Mo_isReady 66 = .ok (.iconst 1, 1) := by decide +kernel
theorem d_Mo_isReady_67 : decode c_Mo_isReady 67 = .ok (.goto 4, 3) := by decide +kernel
theorem d_Mo_isReady_70 : decode c_Mo_isReady 70 = .ok (.iconst 0, 1) := by decide +kernel
theorem d_Mo_isReady_71 : decode c_Mo_isReady 71 = .ok (.istore_n 2, 1) := by decide +kernel
theorem d_Mo_isReady_72 : decode c_Mo_isReady 72 = .ok (.iinc 3 1, 3) := by decide +kernel
theorem d_Mo_isReady_75 : decode c_Mo_isReady 75 = .ok (.goto (-42), 3) := by decide +kernel
theorem d_Mo_isReady_78 : decode c_Mo_isReady 78 = .ok (.iload_n 2, 1) := by decide +kernel
theorem d_Mo_isReady_79 : decode c_Mo_isReady 79 = .ok (.ifCond .ne 7, 3) := by decide +kernel
theorem d_Mo_isReady_82 : decode c_Mo_isReady 82 = .ok (.iconst 1, 1) := by decide +kernel
theorem d_Mo_isReady_83 : decode c_Mo_isReady 83 = .ok (.goto 4, 3) := by decide +kernel
theorem d_Mo_isReady_86 : decode c_Mo_isReady 86 = .ok (.iconst 0, 1) := by decide +kernel
theorem d_Mo_isReady_87 : decode c_Mo_isReady 87 = .ok (.ireturn, 1) := by decide +kernel
theorem d_Mo_fault_0 : decode c_Mo_fault 0 = .ok (.aload_n 0, 1) := by decide +kernel
theorem d_Mo_fault_1 : decode c_Mo_fault 1 = .ok (.getfield 30, 3) := by decide +kernel
theorem d_Mo_fault_4 : decode c_Mo_fault 4 = .ok (.iload_n 1, 1) := by decide +kernel
theorem d_Mo_fault_5 : decode c_Mo_fault 5 = .ok (.baload, 1) := by decide +kernel
theorem d_Mo_fault_6 : decode c_Mo_fault 6 = .ok (.ifCond .ne 5, 3) := by decide +kernel
theorem d_Mo_fault_9 : decode c_Mo_fault 9 = .ok (.iconst 1, 1) := by decide +kernel
theorem d_Mo_fault_10 : decode c_Mo_fault 10 = .ok (.ireturn, 1) := by decide +kernel
theorem d_Mo_fault_11 : decode c_Mo_fault 11 = .ok (.iconst 0, 1) := by decide +kernel
theorem d_Mo_fault_12 : decode c_Mo_fault 12 = .ok (.istore_n 2, 1) := by decide +kernel
theorem d_Mo_fault_13 : decode c_Mo_fault 13 = .ok (.iconst 0, 1) := by decide +kernel
theorem d_Mo_fault_14 : decode c_Mo_fault 14 = .ok (.istore_n 3, 1) := by decide +kernel
theorem d_Mo_fault_15 : decode c_Mo_fault 15 = .ok (.iload_n 3, 1) := by decide +kernel
theorem d_Mo_fault_16 : decode c_Mo_fault 16 = .ok (.bipush 10, 2) := by decide +kernel
theorem d_Mo_fault_18 : decode c_Mo_fault 18 = .ok (.if_icmp .ge 63, 3) := by decide +kernel
theorem d_Mo_fault_21 : decode c_Mo_fault 21 = .ok (.iload_n 3, 1) := by decide +kernel
theorem d_Mo_fault_22 : decode c_Mo_fault 22 = .ok (.iload_n 1, 1) := by decide +kernel
theorem d_Mo_fault_23 : decode c_Mo_fault 23 = .ok (.if_icmp .eq 20, 3) := by decide +kernel
theorem d_Mo_fault_26 : decode c_Mo_fault 26 = .ok (.aload_n 0, 1) := by decide +kernel
theorem d_Mo_fault_27 : decode c_Mo_fault 27 = .ok (.getfield 20, 3) := by decide +kernel
theorem d_Mo_fault_30 : decode c_Mo_fault 30 = .ok (.iload_n 3, 1) := by decide +kernel
theorem d_Mo_fault_31 : decode c_Mo_fault 31 = .ok (.iaload, 1) := by decide +kernel
theorem d_Mo_fault_32 : decode c_Mo_fault 32 = .ok (.aload_n 0, 1) := by decide +kernel
theorem d_Mo_fault_33 : decode c_Mo_fault 33 = .ok (.getfield 20, 3) := by decide +kernel
theorem d_Mo_fault_36 : decode c_Mo_fault 36 = .ok (.iload_n 1, 1) := by decide +kernel
theorem d_Mo_fault_37 : decode c_Mo_fault 37 = .ok (.iaload, 1) := by decide +kernel
theorem d_Mo_fault_38 : decode c_Mo_fault 38 = .ok (.if_icmp .ne 5, 3) := by decide +kernel
theorem d_Mo_fault_41 : decode c_Mo_fault 41 = .ok (.iconst 2, 1) := by decide +kernel
theorem d_Mo_fault_42 : decode c_Mo_fault 42 = .ok (.ireturn, 1) := by decide +kernel
theorem d_Mo_fault_43 : decode c_Mo_fault 43 = .ok (.iload_n 2, 1) := by decide +kernel
theorem d_Mo_fault_44 : decode c_Mo_fault 44 = .ok (.ifCond .ne 25, 3) := by decide +kernel
theorem d_Mo_fault_47 : decode c_Mo_fault 47 = .ok (.aload_n 0, 1) := by decide +kernel
theorem d_Mo_fault_48 : decode c_Mo_fault 48 = .ok (.getfield 33, 3) := by decide +kernel
theorem d_Mo_fault_51 : decode c_Mo_fault 51 = .ok (.iload_n 1, 1) := by decide +kernel
theorem d_Mo_fault_52 : decode c_Mo_fault 52 = .ok (.iaload, 1) := by decide +kernel
theorem d_Mo_fault_53 : decode c_Mo_fault 53 = .ok (.iload_n 3, 1) := by decide +kernel
theorem d_Mo_fault_54 : decode c_Mo_fault 54 = .ok (.ishr, 1) := by decide +kernel
theorem d_Mo_fault_55 : decode c_Mo_fault 55 = .ok (.iconst 1, 1) := by decide +kernel
theorem d_Mo_fault_56 : decode c_Mo_fault 56 = .ok (.iand, 1) := by decide +kernel
theorem d_Mo_fault_57 : decode c_Mo_fault 57 = .ok (.iconst 1, 1) := by decide +kernel
theorem d_Mo_fault_58 : decode c_Mo_fault 58 = .ok (.if_icmp .ne 15, 3) := by decide +kernel
theorem d_Mo_fault_61 : decode c_Mo_fault 61 = .ok (.aload_n 0, 1) := by decide +kernel
theorem d_Mo_fault_62 : decode c_Mo_fault 62 = .ok (.iload_n 3, 1) := by decide +kernel
theorem d_Mo_fault_63 : decode c_Mo_fault 63 = .ok (.invokevirtual 131, 3) := by decide +kernel
theorem d_Mo_fault_66 : decode c_Mo_fault 66 = .ok (.ifCond .ge 7, 3) := by decide +kernel
theorem d_Mo_fault_69 : decode c_Mo_fault 69 = .ok (.iconst 1, 1) := by decide +kernel
theorem d_Mo_fault_70 : decode c_Mo_fault 70 = .ok (.goto 4, 3) := by decide +kernel
theorem d_Mo_fault_73 : decode c_Mo_fault 73 = .ok (.iconst 0, 1) := by decide +kernel
theorem d_Mo_fault_74 : decode c_Mo_fault 74 = .ok (.istore_n 2, 1) := by decide +kernel
theorem d_Mo_fault_75 : decode c_Mo_fault 75 = .ok (.iinc 3 1, 3) := by decide +kernel
theorem d_Mo_fault_78 : decode c_Mo_fault 78 = .ok (.goto (-63), 3) := by decide +kernel
theorem d_Mo_fault_81 : decode c_Mo_fault 81 = .ok (.iload_n 2, 1) := by decide +kernel
theorem d_Mo_fault_82 : decode c_Mo_fault 82 = .ok (.ifCond .eq 7, 3) := by decide +kernel
theorem d_Mo_fault_85 : decode c_Mo_fault 85 = .ok (.iconst 3, 1) := by decide +kernel
theorem d_Mo_fault_86 : decode c_Mo_fault 86 = .ok (.goto 16, 3) := by decide +kernel
theorem d_Mo_fault_89 : decode c_Mo_fault 89 = .ok (.aload_n 0, 1) := by decide +kernel
theorem d_Mo_fault_90 : decode c_Mo_fault 90 = .ok (.iload_n 1, 1) := by decide +kernel
theorem d_Mo_fault_91 : decode c_Mo_fault 91 = .ok (.invokevirtual 135, 3) := by decide +kernel
theorem d_Mo_fault_94 : decode c_Mo_fault 94 = .ok (.ifCond .eq 7, 3) := by decide +kernel
theorem d_Mo_fault_97 : decode c_Mo_fault 97 = .ok (.iconst 4, 1) := by decide +kernel
theorem d_Mo_fault_98 : decode c_Mo_fault 98 = .ok (.goto 4, 3) := by decide +kernel
theorem d_Mo_fault_101 : decode c_Mo_fault 101 = .ok (.iconst 0, 1) := by decide +kernel
theorem d_Mo_fault_102 : decode c_Mo_fault 102 = .ok (.ireturn, 1) := by decide +kernel
theorem d_Mo_definer_0 : decode c_Mo_definer 0 = .ok (.iconst (-1), 1) := by decide +kernel
theorem d_Mo_definer_1 : decode c_Mo_definer 1 = .ok (.istore_n 2, 1) := by decide +kernel
theorem d_Mo_definer_2 : decode c_Mo_definer 2 = .ok (.iconst 0, 1) := by decide +kernel
theorem d_Mo_definer_3 : decode c_Mo_definer 3 = .ok (.istore_n 3, 1) := by decide +kernel
theorem d_Mo_definer_4 : decode c_Mo_definer 4 = .ok (.iload_n 3, 1) := by decide +kernel
theorem d_Mo_definer_5 : decode c_Mo_definer 5 = .ok (.bipush 10, 2) := by decide +kernel
theorem d_Mo_definer_7 : decode c_Mo_definer 7 = .ok (.if_icmp .ge 25, 3) := by decide +kernel
theorem d_Mo_definer_10 : decode c_Mo_definer 10 = .ok (.aload_n 0, 1) := by decide +kernel
theorem d_Mo_definer_11 : decode c_Mo_definer 11 = .ok (.getfield 20, 3) := by decide +kernel
theorem d_Mo_definer_14 : decode c_Mo_definer 14 = .ok (.iload_n 3, 1) := by decide +kernel
theorem d_Mo_definer_15 : decode c_Mo_definer 15 = .ok (.iaload, 1) := by decide +kernel
theorem d_Mo_definer_16 : decode c_Mo_definer 16 = .ok (.iload_n 1, 1) := by decide +kernel
theorem d_Mo_definer_17 : decode c_Mo_definer 17 = .ok (.if_icmp .ne 7, 3) := by decide +kernel
theorem d_Mo_definer_20 : decode c_Mo_definer 20 = .ok (.iload_n 3, 1) := by decide +kernel
theorem d_Mo_definer_21 : decode c_Mo_definer 21 = .ok (.goto 4, 3) := by decide +kernel
theorem d_Mo_definer_24 : decode c_Mo_definer 24 = .ok (.iload_n 2, 1) := by decide +kernel
theorem d_Mo_definer_25 : decode c_Mo_definer 25 = .ok (.istore_n 2, 1) := by decide +kernel
theorem d_Mo_definer_26 : decode c_Mo_definer 26 = .ok (.iinc 3 1, 3) := by decide +kernel
theorem d_Mo_definer_29 : decode c_Mo_definer 29 = .ok (.goto (-25), 3) := by decide +kernel
theorem d_Mo_definer_32 : decode c_Mo_definer 32 = .ok (.iload_n 2, 1) := by decide +kernel
theorem d_Mo_definer_33 : decode c_Mo_definer 33 = .ok (.ireturn, 1) := by decide +kernel
theorem d_Mo_cycles_0 : decode c_Mo_cycles 0 = .ok (.iconst 0, 1) := by decide +kernel
theorem d_Mo_cycles_1 : decode c_Mo_cycles 1 = .ok (.istore_n 2, 1) := by decide +kernel
theorem d_Mo_cycles_2 : decode c_Mo_cycles 2 = .ok (.iconst 0, 1) := by decide +kernel
theorem d_Mo_cycles_3 : decode c_Mo_cycles 3 = .ok (.istore_n 3, 1) := by decide +kernel
theorem d_Mo_cycles_4 : decode c_Mo_cycles 4 = .ok (.iload_n 3, 1) := by decide +kernel
theorem d_Mo_cycles_5 : decode c_Mo_cycles 5 = .ok (.bipush 10, 2) := by decide +kernel
theorem d_Mo_cycles_7 : decode c_Mo_cycles 7 = .ok (.if_icmp .ge 41, 3) := by decide +kernel
theorem d_Mo_cycles_10 : decode c_Mo_cycles 10 = .ok (.aload_n 0, 1) := by decide +kernel
theorem d_Mo_cycles_11 : decode c_Mo_cycles 11 = .ok (.iload_n 1, 1) := by decide +kernel
theorem d_Mo_cycles_12 : decode c_Mo_cycles 12 = .ok (.iload_n 3, 1) := by decide +kernel
theorem d_Mo_cycles_13 : decode c_Mo_cycles 13 = .ok (.invokevirtual 127, 3) := by decide +kernel
theorem d_Mo_cycles_16 : decode c_Mo_cycles 16 = .ok (.ifCond .eq 24, 3) := by decide +kernel
theorem d_Mo_cycles_19 : decode c_Mo_cycles 19 = .ok (.iload_n 3, 1) := by decide +kernel
theorem d_Mo_cycles_20 : decode c_Mo_cycles 20 = .ok (.iload_n 1, 1) := by decide +kernel
theorem d_Mo_cycles_21 : decode c_Mo_cycles 21 = .ok (.if_icmp .ne 11, 3) := by decide +kernel
theorem d_Mo_cycles_24 : decode c_Mo_cycles 24 = .ok (.aload_n 0, 1) := by decide +kernel
theorem d_Mo_cycles_25 : decode c_Mo_cycles 25 = .ok (.iload_n 1, 1) := by decide +kernel
theorem d_Mo_cycles_26 : decode c_Mo_cycles 26 = .ok (.invokevirtual 116, 3) := by decide +kernel
theorem d_Mo_cycles_29 : decode c_Mo_cycles 29 = .ok (.ifCond .ne 11, 3) := by decide +kernel
theorem d_Mo_cycles_32 : decode c_Mo_cycles 32 = .ok (.iload_n 2, 1) := by decide +kernel
theorem d_Mo_cycles_33 : decode c_Mo_cycles 33 = .ok (.iconst 1, 1) := by decide +kernel
theorem d_Mo_cycles_34 : decode c_Mo_cycles 34 = .ok (.iload_n 3, 1) := by decide +kernel
theorem d_Mo_cycles_35 : decode c_Mo_cycles 35 = .ok (.ishl, 1) := by decide +kernel
theorem d_Mo_cycles_36 : decode c_Mo_cycles 36 = .ok (.ior, 1) := by decide +kernel
theorem d_Mo_cycles_37 : decode c_Mo_cycles 37 = .ok (.goto 4, 3) := by decide +kernel
theorem d_Mo_cycles_40 : decode c_Mo_cycles 40 = .ok (.iload_n 2, 1) := by decide +kernel
theorem d_Mo_cycles_41 : decode c_Mo_cycles 41 = .ok (.istore_n 2, 1) := by decide +kernel
theorem d_Mo_cycles_42 : decode c_Mo_cycles 42 = .ok (.iinc 3 1, 3) := by decide +kernel
theorem d_Mo_cycles_45 : decode c_Mo_cycles 45 = .ok (.goto (-41), 3) := by decide +kernel
theorem d_Mo_cycles_48 : decode c_Mo_cycles 48 = .ok (.iconst 0, 1) := by decide +kernel
theorem d_Mo_cycles_49 : decode c_Mo_cycles 49 = .ok (.istore_n 3, 1) := by decide +kernel
theorem d_Mo_cycles_50 : decode c_Mo_cycles 50 = .ok (.iload_n 3, 1) := by decide +kernel
theorem d_Mo_cycles_51 : decode c_Mo_cycles 51 = .ok (.bipush 10, 2) := by decide +kernel
theorem d_Mo_cycles_53 : decode c_Mo_cycles 53 = .ok (.if_icmp .ge 85, 3) := by decide +kernel
theorem d_Mo_cycles_56 : decode c_Mo_cycles 56 = .ok (.iconst 0, 1) := by decide +kernel
theorem d_Mo_cycles_57 : decode c_Mo_cycles 57 = .ok (.istore 4, 2) := by decide +kernel
theorem d_Mo_cycles_59 : decode c_Mo_cycles 59 = .ok (.iload 4, 2) := by decide +kernel
theorem d_Mo_cycles_61 : decode c_Mo_cycles 61 = .ok (.bipush 10, 2) := by decide +kernel
theorem d_Mo_cycles_63 : decode c_Mo_cycles 63 = .ok (.if_icmp .ge 69, 3) := by decide +kernel
theorem d_Mo_cycles_66 : decode c_Mo_cycles 66 = .ok (.iconst 0, 1) := by decide +kernel
theorem d_Mo_cycles_67 : decode c_Mo_cycles 67 = .ok (.istore 5, 2) := by decide +kernel
theorem d_Mo_cycles_69 : decode c_Mo_cycles 69 = .ok (.iload 5, 2) := by decide +kernel
theorem d_Mo_cycles_71 : decode c_Mo_cycles 71 = .ok (.bipush 10, 2) := by decide +kernel
theorem d_Mo_cycles_73 : decode c_Mo_cycles 73 = .ok (.if_icmp .ge 53, 3) := by decide +kernel
theorem d_Mo_cycles_76 : decode c_Mo_cycles 76 = .ok (.iload_n 2, 1) := by decide +kernel
theorem d_Mo_cycles_77 : decode c_Mo_cycles 77 = .ok (.iload 4, 2) := by decide +kernel
theorem d_Mo_cycles_79 : decode c_Mo_cycles 79 = .ok (.ishr, 1) := by decide +kernel
theorem d_Mo_cycles_80 : decode c_Mo_cycles 80 = .ok (.iconst 1, 1) := by decide +kernel
theorem d_Mo_cycles_81 : decode c_Mo_cycles 81 = .ok (.iand, 1) := by decide +kernel
theorem d_Mo_cycles_82 : decode c_Mo_cycles 82 = .ok (.iconst 1, 1) := by decide +kernel
theorem d_Mo_cycles_83 : decode c_Mo_cycles 83 = .ok (.if_icmp .ne 43, 3) := by decide +kernel
theorem d_Mo_cycles_86 : decode c_Mo_cycles 86 = .ok (.aload_n 0, 1) := by decide +kernel
theorem d_Mo_cycles_87 : decode c_Mo_cycles 87 = .ok (.iload 4, 2) := by decide +kernel
theorem d_Mo_cycles_89 : decode c_Mo_cycles 89 = .ok (.iload 5, 2) := by decide +kernel
theorem d_Mo_cycles_91 : decode c_Mo_cycles 91 = .ok (.invokevirtual 127, 3) := by decide +kernel
theorem d_Mo_cycles_94 : decode c_Mo_cycles 94 = .ok (.ifCond .eq 26, 3) := by decide +kernel
theorem d_Mo_cycles_97 : decode c_Mo_cycles 97 = .ok (.iload 5, 2) := by decide +kernel
theorem d_Mo_cycles_99 : decode c_Mo_cycles 99 = .ok (.iload 4, 2) := by decide +kernel
theorem d_Mo_cycles_101 : decode c_Mo_cycles 101 = .ok (.if_icmp .ne 12, 3) := by decide +kernel
theorem d_Mo_cycles_104 : decode c_Mo_cycles 104 = .ok (.aload_n 0, 1) := by decide +kernel
theorem d_Mo_cycles_105 : decode c_Mo_cycles 105 = .ok (.iload 4, 2) := by decide +kernel
theorem d_Mo_cycles_107 : decode c_Mo_cycles 107 = .ok (.invokevirtual 116, 3) := by decide +kernel
theorem d_Mo_cycles_110 : decode c_Mo_cycles 110 = .ok (.ifCond .ne 10, 3) := by decide +kernel
theorem d_Mo_cycles_113 : decode c_Mo_cycles 113 = .ok (.iload_n 2, 1) := by decide +kernel
theorem d_Mo_cycles_114 : decode c_Mo_cycles 114 = .ok (.iconst 1, 1) := by decide +kernel
theorem d_Mo_cycles_115 : decode c_Mo_cycles 115 = .ok (.iload 5, 2) := by decide +kernel
theorem d_Mo_cycles_117 : decode c_Mo_cycles 117 = .ok (.ishl, 1) := by decide +kernel
theorem d_Mo_cycles_118 : decode c_Mo_cycles 118 = .ok (.ior, 1) := by decide +kernel
theorem d_Mo_cycles_119 : decode c_Mo_cycles 119 = .ok (.istore_n 2, 1) := by decide +kernel
theorem d_Mo_cycles_120 : decode c_Mo_cycles 120 = .ok (.iinc 5 1, 3) := by decide +kernel
theorem d_Mo_cycles_123 : decode c_Mo_cycles 123 = .ok (.goto (-54), 3) := by decide +kernel
theorem d_Mo_cycles_126 : decode c_Mo_cycles 126 = .ok (.iinc 4 1, 3) := by decide +kernel
theorem d_Mo_cycles_129 : decode c_Mo_cycles 129 = .ok (.goto (-70), 3) := by decide +kernel
theorem d_Mo_cycles_132 : decode c_Mo_cycles 132 = .ok (.iinc 3 1, 3) := by decide +kernel
theorem d_Mo_cycles_135 : decode c_Mo_cycles 135 = .ok (.goto (-85), 3) := by decide +kernel
theorem d_Mo_cycles_138 : decode c_Mo_cycles 138 = .ok (.iload_n 2, 1) := by decide +kernel
theorem d_Mo_cycles_139 : decode c_Mo_cycles 139 = .ok (.iload_n 1, 1) := by decide +kernel
theorem d_Mo_cycles_140 : decode c_Mo_cycles 140 = .ok (.ishr, 1) := by decide +kernel
theorem d_Mo_cycles_141 : decode c_Mo_cycles 141 = .ok (.iconst 1, 1) := by decide +kernel
theorem d_Mo_cycles_142 : decode c_Mo_cycles 142 = .ok (.iand, 1) := by decide +kernel
theorem d_Mo_cycles_143 : decode c_Mo_cycles 143 = .ok (.iconst 1, 1) := by decide +kernel
theorem d_Mo_cycles_144 : decode c_Mo_cycles 144 = .ok (.if_icmp .ne 7, 3) := by decide +kernel
theorem d_Mo_cycles_147 : decode c_Mo_cycles 147 = .ok (.iconst 1, 1) := by decide +kernel
theorem d_Mo_cycles_148 : decode c_Mo_cycles 148 = .ok (.goto 4, 3) := by decide +kernel
theorem d_Mo_cycles_151 : decode c_Mo_cycles 151 = .ok (.iconst 0, 1) := by decide +kernel
theorem d_Mo_cycles_152 : decode c_Mo_cycles 152 = .ok (.ireturn, 1) := by decide +kernel
theorem d_Mo_workOut_0 : decode c_Mo_workOut 0 = .ok (.iconst 0, 1) := by decide +kernel
theorem d_Mo_workOut_1 : decode c_Mo_workOut 1 = .ok (.istore_n 2, 1) := by decide +kernel
theorem d_Mo_workOut_2 : decode c_Mo_workOut 2 = .ok (.iconst 0, 1) := by decide +kernel
theorem d_Mo_workOut_3 : decode c_Mo_workOut 3 = .ok (.istore_n 3, 1) := by decide +kernel
theorem d_Mo_workOut_4 : decode c_Mo_workOut 4 = .ok (.iload_n 3, 1) := by decide +kernel
theorem d_Mo_workOut_5 : decode c_Mo_workOut 5 = .ok (.bipush 10, 2) := by decide +kernel
theorem d_Mo_workOut_7 : decode c_Mo_workOut 7 = .ok (.if_icmp .ge 41, 3) := by decide +kernel
theorem d_Mo_workOut_10 : decode c_Mo_workOut 10 = .ok (.iload_n 2, 1) := by decide +kernel
theorem d_Mo_workOut_11 : decode c_Mo_workOut 11 = .ok (.ifCond .ne 25, 3) := by decide +kernel
theorem d_Mo_workOut_14 : decode c_Mo_workOut 14 = .ok (.iload_n 3, 1) := by decide +kernel
theorem d_Mo_workOut_15 : decode c_Mo_workOut 15 = .ok (.iload_n 1, 1) := by decide +kernel
theorem d_Mo_workOut_16 : decode c_Mo_workOut 16 = .ok (.if_icmp .eq 24, 3) := by decide +kernel
theorem d_Mo_workOut_19 : decode c_Mo_workOut 19 = .ok (.aload_n 0, 1) := by decide +kernel
theorem d_Mo_workOut_20 : decode c_Mo_workOut 20 = .ok (.iload_n 1, 1) := by decide +kernel
theorem d_Mo_workOut_21 : decode c_Mo_workOut 21 = .ok (.iload_n 3, 1) := by decide +kernel
theorem d_Mo_workOut_22 : decode c_Mo_workOut 22 = .ok (.invokevirtual 127, 3) := by decide +kernel
theorem d_Mo_workOut_25 : decode c_Mo_workOut 25 = .ok (.ifCond .eq 15, 3) := by decide +kernel
theorem d_Mo_workOut_28 : decode c_Mo_workOut 28 = .ok (.aload_n 0, 1) := by decide +kernel
theorem d_Mo_workOut_29 : decode c_Mo_workOut 29 = .ok (.iload_n 3, 1) := by decide +kernel
theorem d_Mo_workOut_30 : decode c_Mo_workOut 30 = .ok (.invokevirtual 221, 3) := by decide +kernel
theorem d_Mo_workOut_33 : decode c_Mo_workOut 33 = .ok (.ifCond .eq 7, 3) := by decide +kernel
theorem d_Mo_workOut_36 : decode c_Mo_workOut 36 = .ok (.iconst 1, 1) := by decide +kernel
theorem d_Mo_workOut_37 : decode c_Mo_workOut 37 = .ok (.goto 4, 3) := by decide +kernel
theorem d_Mo_workOut_40 : decode c_Mo_workOut 40 = .ok (.iconst 0, 1) := by decide +kernel
theorem d_Mo_workOut_41 : decode c_Mo_workOut 41 = .ok (.istore_n 2, 1) := by decide +kernel
theorem d_Mo_workOut_42 : decode c_Mo_workOut 42 = .ok (.iinc 3 1, 3) := by decide +kernel
theorem d_Mo_workOut_45 : decode c_Mo_workOut 45 = .ok (.goto (-41), 3) := by decide +kernel
theorem d_Mo_workOut_48 : decode c_Mo_workOut 48 = .ok (.iload_n 2, 1) := by decide +kernel
theorem d_Mo_workOut_49 : decode c_Mo_workOut 49 = .ok (.ifCond .eq 11, 3) := by decide +kernel
theorem d_Mo_workOut_52 : decode c_Mo_workOut 52 = .ok (.aload_n 0, 1) := by decide +kernel
theorem d_Mo_workOut_53 : decode c_Mo_workOut 53 = .ok (.getfield 39, 3) := by decide +kernel
theorem d_Mo_workOut_56 : decode c_Mo_workOut 56 = .ok (.iload_n 1, 1) := by decide +kernel
theorem d_Mo_workOut_57 : decode c_Mo_workOut 57 = .ok (.iconst 5, 1) := by decide +kernel
theorem d_Mo_workOut_58 : decode c_Mo_workOut 58 = .ok (.iastore, 1) := by decide +kernel
theorem d_Mo_workOut_59 : decode c_Mo_workOut 59 = .ok (.return_, 1) := by decide +kernel
theorem d_Mo_workOut_60 : decode c_Mo_workOut 60 = .ok (.aload_n 0, 1) := by decide +kernel
theorem d_Mo_workOut_61 : decode c_Mo_workOut 61 = .ok (.iload_n 1, 1) := by decide +kernel
theorem d_Mo_workOut_62 : decode c_Mo_workOut 62 = .ok (.invokevirtual 224, 3) := by decide +kernel
theorem d_Mo_workOut_65 : decode c_Mo_workOut 65 = .ok (.istore_n 3, 1) := by decide +kernel
theorem d_Mo_workOut_66 : decode c_Mo_workOut 66 = .ok (.aload_n 0, 1) := by decide +kernel
theorem d_Mo_workOut_67 : decode c_Mo_workOut 67 = .ok (.iload_n 1, 1) := by decide +kernel
theorem d_Mo_workOut_68 : decode c_Mo_workOut 68 = .ok (.invokevirtual 116, 3) := by decide +kernel
theorem d_Mo_workOut_71 : decode c_Mo_workOut 71 = .ok (.istore 4, 2) := by decide +kernel
theorem d_Mo_workOut_73 : decode c_Mo_workOut 73 = .ok (.iload_n 3, 1) := by decide +kernel
theorem d_Mo_workOut_74 : decode c_Mo_workOut 74 = .ok (.ifCond .eq 13, 3) := by decide +kernel
theorem d_Mo_workOut_77 : decode c_Mo_workOut 77 = .ok (.iload 4, 2) := by decide +kernel
theorem d_Mo_workOut_79 : decode c_Mo_workOut 79 = .ok (.ifCond .eq 19, 3) := by decide +kernel
theorem d_Mo_workOut_82 : decode c_Mo_workOut 82 = .ok (.iload_n 3, 1) := by decide +kernel
theorem d_Mo_workOut_83 : decode c_Mo_workOut 83 = .ok (.iconst 1, 1) := by decide +kernel
theorem d_Mo_workOut_84 : decode c_Mo_workOut 84 = .ok (.if_icmp .eq 14, 3) := by decide +kernel
theorem d_Mo_workOut_87 : decode c_Mo_workOut 87 = .ok (.aload_n 0, 1) := by decide +kernel
theorem d_Mo_workOut_88 : decode c_Mo_workOut 88 = .ok (.getfield 39, 3) := by decide +kernel
theorem d_Mo_workOut_91 : decode c_Mo_workOut 91 = .ok (.iload_n 1, 1) := by decide +kernel
theorem d_Mo_workOut_92 : decode c_Mo_workOut 92 = .ok (.bipush 6, 2) := by decide +kernel
theorem d_Mo_workOut_94 : decode c_Mo_workOut 94 = .ok (.iastore, 1) := by decide +kernel
theorem d_Mo_workOut_95 : decode c_Mo_workOut 95 = .ok (.goto 25, 3) := by decide +kernel
theorem d_Mo_workOut_98 : decode c_Mo_workOut 98 = .ok (.iload 4, 2) := by decide +kernel
theorem d_Mo_workOut_100 : decode c_Mo_workOut 100 = .ok (.ifCond .eq 14, 3) := by decide +kernel
theorem d_Mo_workOut_103 : decode c_Mo_workOut 103 = .ok (.aload_n 0, 1) := by decide +kernel
theorem d_Mo_workOut_104 : decode c_Mo_workOut 104 = .ok (.getfield 39, 3) := by decide +kernel
theorem d_Mo_workOut_107 : decode c_Mo_workOut 107 = .ok (.iload_n 1, 1) := by decide +kernel
theorem d_Mo_workOut_108 : decode c_Mo_workOut 108 = .ok (.bipush 13, 2) := by decide +kernel
theorem d_Mo_workOut_110 : decode c_Mo_workOut 110 = .ok (.iastore, 1) := by decide +kernel
theorem d_Mo_workOut_111 : decode c_Mo_workOut 111 = .ok (.goto 9, 3) := by decide +kernel
theorem d_Mo_workOut_114 : decode c_Mo_workOut 114 = .ok (.aload_n 0, 1) := by decide +kernel
theorem d_Mo_workOut_115 : decode c_Mo_workOut 115 = .ok (.iload_n 1, 1) := by decide +kernel
theorem d_Mo_workOut_116 : decode c_Mo_workOut 116 = .ok (.iload_n 3, 1) := by decide +kernel
theorem d_Mo_workOut_117 : decode c_Mo_workOut 117 = .ok (.invokevirtual 227, 3) := by decide +kernel
theorem d_Mo_workOut_120 : decode c_Mo_workOut 120 = .ok (.return_, 1) := by decide +kernel
theorem d_Mo_blocks_0 : decode c_Mo_blocks 0 = .ok (.aload_n 0, 1) := by decide +kernel
theorem d_Mo_blocks_1 : decode c_Mo_blocks 1 = .ok (.iload_n 1, 1) := by decide +kernel
theorem d_Mo_blocks_2 : decode c_Mo_blocks 2 = .ok (.invokevirtual 218, 3) := by decide +kernel
theorem d_Mo_blocks_5 : decode c_Mo_blocks 5 = .ok (.ifCond .ne 25, 3) := by decide +kernel
theorem d_Mo_blocks_8 : decode c_Mo_blocks 8 = .ok (.aload_n 0, 1) := by decide +kernel
theorem d_Mo_blocks_9 : decode c_Mo_blocks 9 = .ok (.getfield 39, 3) := by decide +kernel
theorem d_Mo_blocks_12 : decode c_Mo_blocks 12 = .ok (.iload_n 1, 1) := by decide +kernel
theorem d_Mo_blocks_13 : decode c_Mo_blocks 13 = .ok (.iaload, 1) := by decide +kernel
theorem d_Mo_blocks_14 : decode c_Mo_blocks 14 = .ok (.bipush 14, 2) := by decide +kernel
theorem d_Mo_blocks_16 : decode c_Mo_blocks 16 = .ok (.if_icmp .eq 18, 3) := by decide +kernel
theorem d_Mo_blocks_19 : decode c_Mo_blocks 19 = .ok (.aload_n 0, 1) := by decide +kernel
theorem d_Mo_blocks_20 : decode c_Mo_blocks 20 = .ok (.getfield 39, 3) := by decide +kernel
theorem d_Mo_blocks_23 : decode c_Mo_blocks 23 = .ok (.iload_n 1, 1) := by decide +kernel
theorem d_Mo_blocks_24 : decode c_Mo_blocks 24 = .ok (.iaload, 1) := by decide +kernel
theorem d_Mo_blocks_25 : decode c_Mo_blocks 25 = .ok (.bipush 13, 2) := by decide +kernel
theorem d_Mo_blocks_27 : decode c_Mo_blocks 27 = .ok (.if_icmp .eq 7, 3) := by decide +kernel
theorem d_Mo_blocks_30 : decode c_Mo_blocks 30 = .ok (.iconst 1, 1) := by decide +kernel
theorem d_Mo_blocks_31 : decode c_Mo_blocks 31 = .ok (.goto 4, 3) := by decide +kernel
theorem d_Mo_blocks_34 : decode c_Mo_blocks 34 = .ok (.iconst 0, 1) := by decide +kernel
theorem d_Mo_blocks_35 : decode c_Mo_blocks 35 = .ok (.ireturn, 1) := by decide +kernel
theorem d_Mo_typeOf_0 : decode c_Mo_typeOf 0 = .ok (.iconst 1, 1) := by decide +kernel
theorem d_Mo_typeOf_1 : decode c_Mo_typeOf 1 = .ok (.istore_n 2, 1) := by decide +kernel
theorem d_Mo_typeOf_2 : decode c_Mo_typeOf 2 = .ok (.aload_n 0, 1) := by decide +kernel
theorem d_Mo_typeOf_3 : decode c_Mo_typeOf 3 = .ok (.iconst 0, 1) := by decide +kernel
theorem d_Mo_typeOf_4 : decode c_Mo_typeOf 4 = .ok (.putfield 151, 3) := by decide +kernel
theorem d_Mo_typeOf_7 : decode c_Mo_typeOf 7 = .ok (.aload_n 0, 1) := by decide +kernel
theorem d_Mo_typeOf_8 : decode c_Mo_typeOf 8 = .ok (.iload_n 1, 1) := by decide +kernel
theorem d_Mo_typeOf_9 : decode c_Mo_typeOf 9 = .ok (.invokevirtual 116, 3) := by decide +kernel
theorem d_Mo_typeOf_12 : decode c_Mo_typeOf 12 = .ok (.ifCond .eq 7, 3) := by decide +kernel
theorem d_Mo_typeOf_15 : decode c_Mo_typeOf 15 = .ok (.iconst 2, 1) := by decide +kernel
theorem d_Mo_typeOf_16 : decode c_Mo_typeOf 16 = .ok (.goto 4, 3) := by decide +kernel
theorem d_Mo_typeOf_19 : decode c_Mo_typeOf 19 = .ok (.iconst 0, 1) := by decide +kernel
theorem d_Mo_typeOf_20 : decode c_Mo_typeOf 20 = .ok (.istore_n 3, 1) := by decide +kernel
theorem d_Mo_typeOf_21 : decode c_Mo_typeOf 21 = .ok (.aload_n 0, 1) := by decide +kernel
theorem d_Mo_typeOf_22 : decode c_Mo_typeOf 22 = .ok (.getfield 16, 3) := by decide +kernel
theorem d_Mo_typeOf_25 : decode c_Mo_typeOf 25 = .ok (.iload_n 1, 1) := by decide +kernel
theorem d_Mo_typeOf_26 : decode c_Mo_typeOf 26 = .ok (.iaload, 1) := by decide +kernel
theorem d_Mo_typeOf_27 : decode c_Mo_typeOf 27 = .ok (.iconst 1, 1) := by decide +kernel
theorem d_Mo_typeOf_28 : decode c_Mo_typeOf 28 = .ok (.isub, 1) := by decide +kernel
theorem d_Mo_typeOf_29 : decode c_Mo_typeOf 29 = .ok (.istore 4, 2) := by decide +kernel
theorem d_Mo_typeOf_31 : decode c_Mo_typeOf 31 = .ok (.iload 4, 2) := by decide +kernel
theorem d_Mo_typeOf_33 : decode c_Mo_typeOf 33 = .ok (.iload_n 3, 1) := by decide +kernel
theorem d_Mo_typeOf_34 : decode c_Mo_typeOf 34 = .ok (.if_icmp .lt 120, 3) := by decide +kernel
theorem d_Mo_typeOf_37 : decode c_Mo_typeOf 37 = .ok (.aload_n 0, 1) := by decide +kernel
theorem d_Mo_typeOf_38 : decode c_Mo_typeOf 38 = .ok (.getfield 26, 3) := by decide +kernel
theorem d_Mo_typeOf_41 : decode c_Mo_typeOf 41 = .ok (.bipush 24, 2) := by decide +kernel
theorem d_Mo_typeOf_43 : decode c_Mo_typeOf 43 = .ok (.iload_n 1, 1) := by decide +kernel
theorem d_Mo_typeOf_44 : decode c_Mo_typeOf 44 = .ok (.imul, 1) := by decide +kernel
theorem d_Mo_typeOf_45 : decode c_Mo_typeOf 45 = .ok (.iload 4, 2) := by decide +kernel
theorem d_Mo_typeOf_47 : decode c_Mo_typeOf 47 = .ok (.iadd, 1) := by decide +kernel
end
section
theorem d_Mo_typeOf_48 : decode c_Mo_typeOf 48 = .ok (.baload, 1) := by decide +kernel
theorem d_Mo_typeOf_49 : decode c_Mo_typeOf 49 = .ok (.ifCond .ne 99, 3) := by decide +kernel
theorem d_Mo_typeOf_52 : decode c_Mo_typeOf 52 = .ok (.aload_n 0, 1) := by decide +kernel
theorem d_Mo_typeOf_53 : decode c_Mo_typeOf 53 = .ok (.iload_n 1, 1) := by decide +kernel
theorem d_Mo_typeOf_54 : decode c_Mo_typeOf 54 = .ok (.iload 4, 2) := by decide +kernel
theorem d_Mo_typeOf_56 : decode c_Mo_typeOf 56 = .ok (.invokevirtual 88, 3) := by decide +kernel
theorem d_Mo_typeOf_59 : decode c_Mo_typeOf 59 = .ok (.istore 5, 2) := by decide +kernel
theorem d_Mo_typeOf_61 : decode c_Mo_typeOf 61 = .ok (.iload 5, 2) := by decide +kernel
theorem d_Mo_typeOf_63 : decode c_Mo_typeOf 63 = .ok (.invokestatic 95, 3) := by decide +kernel
theorem d_Mo_typeOf_66 : decode c_Mo_typeOf 66 = .ok (.ifCond .ne 11, 3) := by decide +kernel
theorem d_Mo_typeOf_69 : decode c_Mo_typeOf 69 = .ok (.iload 5, 2) := by decide +kernel
theorem d_Mo_typeOf_71 : decode c_Mo_typeOf 71 = .ok (.invokestatic 102, 3) := by decide +kernel
theorem d_Mo_typeOf_74 : decode c_Mo_typeOf 74 = .ok (.ifCond .eq 7, 3) := by decide +kernel
theorem d_Mo_typeOf_77 : decode c_Mo_typeOf 77 = .ok (.iconst 1, 1) := by decide +kernel
theorem d_Mo_typeOf_78 : decode c_Mo_typeOf 78 = .ok (.goto 47, 3) := by decide +kernel
theorem d_Mo_typeOf_81 : decode c_Mo_typeOf 81 = .ok (.iload 5, 2) := by decide +kernel
theorem d_Mo_typeOf_83 : decode c_Mo_typeOf 83 = .ok (.invokestatic 99, 3) := by decide +kernel
theorem d_Mo_typeOf_86 : decode c_Mo_typeOf 86 = .ok (.ifCond .eq 32, 3) := by decide +kernel
theorem d_Mo_typeOf_89 : decode c_Mo_typeOf 89 = .ok (.aload_n 0, 1) := by decide +kernel
theorem d_Mo_typeOf_90 : decode c_Mo_typeOf 90 = .ok (.iload_n 1, 1) := by decide +kernel
theorem d_Mo_typeOf_91 : decode c_Mo_typeOf 91 = .ok (.iload 5, 2) := by decide +kernel
theorem d_Mo_typeOf_93 : decode c_Mo_typeOf 93 = .ok (.bipush 97, 2) := by decide +kernel
theorem d_Mo_typeOf_95 : decode c_Mo_typeOf 95 = .ok (.isub, 1) := by decide +kernel
theorem d_Mo_typeOf_96 : decode c_Mo_typeOf 96 = .ok (.invokevirtual 161, 3) := by decide +kernel
theorem d_Mo_typeOf_99 : decode c_Mo_typeOf 99 = .ok (.ifCond .eq 7, 3) := by decide +kernel
theorem d_Mo_typeOf_102 : decode c_Mo_typeOf 102 = .ok (.iconst 0, 1) := by decide +kernel
theorem d_Mo_typeOf_103 : decode c_Mo_typeOf 103 = .ok (.goto 22, 3) := by decide +kernel
theorem d_Mo_typeOf_106 : decode c_Mo_typeOf 106 = .ok (.aload_n 0, 1) := by decide +kernel
theorem d_Mo_typeOf_107 : decode c_Mo_typeOf 107 = .ok (.iload 5, 2) := by decide +kernel
theorem d_Mo_typeOf_109 : decode c_Mo_typeOf 109 = .ok (.bipush 97, 2) := by decide +kernel
theorem d_Mo_typeOf_111 : decode c_Mo_typeOf 111 = .ok (.isub, 1) := by decide +kernel
theorem d_Mo_typeOf_112 : decode c_Mo_typeOf 112 = .ok (.invokevirtual 164, 3) := by decide +kernel
theorem d_Mo_typeOf_115 : decode c_Mo_typeOf 115 = .ok (.goto 10, 3) := by decide +kernel
theorem d_Mo_typeOf_118 : decode c_Mo_typeOf 118 = .ok (.aload_n 0, 1) := by decide +kernel
theorem d_Mo_typeOf_119 : decode c_Mo_typeOf 119 = .ok (.iload_n 1, 1) := by decide +kernel
theorem d_Mo_typeOf_120 : decode c_Mo_typeOf 120 = .ok (.iload 4, 2) := by decide +kernel
theorem d_Mo_typeOf_122 : decode c_Mo_typeOf 122 = .ok (.invokevirtual 167, 3) := by decide +kernel
theorem d_Mo_typeOf_125 : decode c_Mo_typeOf 125 = .ok (.istore 6, 2) := by decide +kernel
theorem d_Mo_typeOf_127 : decode c_Mo_typeOf 127 = .ok (.iload_n 2, 1) := by decide +kernel
theorem d_Mo_typeOf_128 : decode c_Mo_typeOf 128 = .ok (.ifCond .eq 12, 3) := by decide +kernel
theorem d_Mo_typeOf_131 : decode c_Mo_typeOf 131 = .ok (.iload 6, 2) := by decide +kernel
theorem d_Mo_typeOf_133 : decode c_Mo_typeOf 133 = .ok (.ifCond .eq 7, 3) := by decide +kernel
theorem d_Mo_typeOf_136 : decode c_Mo_typeOf 136 = .ok (.iconst 1, 1) := by decide +kernel
theorem d_Mo_typeOf_137 : decode c_Mo_typeOf 137 = .ok (.goto 4, 3) := by decide +kernel
theorem d_Mo_typeOf_140 : decode c_Mo_typeOf 140 = .ok (.iconst 0, 1) := by decide +kernel
theorem d_Mo_typeOf_141 : decode c_Mo_typeOf 141 = .ok (.istore_n 2, 1) := by decide +kernel
theorem d_Mo_typeOf_142 : decode c_Mo_typeOf 142 = .ok (.aload_n 0, 1) := by decide +kernel
theorem d_Mo_typeOf_143 : decode c_Mo_typeOf 143 = .ok (.iload 6, 2) := by decide +kernel
theorem d_Mo_typeOf_145 : decode c_Mo_typeOf 145 = .ok (.invokevirtual 170, 3) := by decide +kernel
theorem d_Mo_typeOf_148 : decode c_Mo_typeOf 148 = .ok (.iinc 4 (-1), 3) := by decide +kernel
theorem d_Mo_typeOf_151 : decode c_Mo_typeOf 151 = .ok (.goto (-120), 3) := by decide +kernel
theorem d_Mo_typeOf_154 : decode c_Mo_typeOf 154 = .ok (.iload_n 2, 1) := by decide +kernel
theorem d_Mo_typeOf_155 : decode c_Mo_typeOf 155 = .ok (.ifCond .eq 12, 3) := by decide +kernel
theorem d_Mo_typeOf_158 : decode c_Mo_typeOf 158 = .ok (.aload_n 0, 1) := by decide +kernel
theorem d_Mo_typeOf_159 : decode c_Mo_typeOf 159 = .ok (.getfield 57, 3) := by decide +kernel
theorem d_Mo_typeOf_162 : decode c_Mo_typeOf 162 = .ok (.iconst 0, 1) := by decide +kernel
theorem d_Mo_typeOf_163 : decode c_Mo_typeOf 163 = .ok (.iaload, 1) := by decide +kernel
theorem d_Mo_typeOf_164 : decode c_Mo_typeOf 164 = .ok (.goto 4, 3) := by decide +kernel
theorem d_Mo_typeOf_167 : decode c_Mo_typeOf 167 = .ok (.iconst 0, 1) := by decide +kernel
theorem d_Mo_typeOf_168 : decode c_Mo_typeOf 168 = .ok (.ireturn, 1) := by decide +kernel
theorem d_Mo_ownName_0 : decode c_Mo_ownName 0 = .ok (.aload_n 0, 1) := by decide +kernel
theorem d_Mo_ownName_1 : decode c_Mo_ownName 1 = .ok (.getfield 20, 3) := by decide +kernel
theorem d_Mo_ownName_4 : decode c_Mo_ownName 4 = .ok (.iload_n 1, 1) := by decide +kernel
theorem d_Mo_ownName_5 : decode c_Mo_ownName 5 = .ok (.iaload, 1) := by decide +kernel
theorem d_Mo_ownName_6 : decode c_Mo_ownName 6 = .ok (.iload_n 2, 1) := by decide +kernel
theorem d_Mo_ownName_7 : decode c_Mo_ownName 7 = .ok (.if_icmp .ne 7, 3) := by decide +kernel
theorem d_Mo_ownName_10 : decode c_Mo_ownName 10 = .ok (.iconst 1, 1) := by decide +kernel
theorem d_Mo_ownName_11 : decode c_Mo_ownName 11 = .ok (.goto 4, 3) := by decide +kernel
theorem d_Mo_ownName_14 : decode c_Mo_ownName 14 = .ok (.iconst 0, 1) := by decide +kernel
theorem d_Mo_ownName_15 : decode c_Mo_ownName 15 = .ok (.ireturn, 1) := by decide +kernel
theorem d_Mo_typeOfName_0 : decode c_Mo_typeOfName 0 = .ok (.aload_n 0, 1) := by decide +kernel
theorem d_Mo_typeOfName_1 : decode c_Mo_typeOfName 1 = .ok (.iload_n 1, 1) := by decide +kernel
theorem d_Mo_typeOfName_2 : decode c_Mo_typeOfName 2 = .ok (.invokevirtual 131, 3) := by decide +kernel
theorem d_Mo_typeOfName_5 : decode c_Mo_typeOfName 5 = .ok (.istore_n 2, 1) := by decide +kernel
theorem d_Mo_typeOfName_6 : decode c_Mo_typeOfName 6 = .ok (.aload_n 0, 1) := by decide +kernel
theorem d_Mo_typeOfName_7 : decode c_Mo_typeOfName 7 = .ok (.getfield 39, 3) := by decide +kernel
theorem d_Mo_typeOfName_10 : decode c_Mo_typeOfName 10 = .ok (.iload_n 2, 1) := by decide +kernel
theorem d_Mo_typeOfName_11 : decode c_Mo_typeOfName 11 = .ok (.iaload, 1) := by decide +kernel
theorem d_Mo_typeOfName_12 : decode c_Mo_typeOfName 12 = .ok (.bipush 14, 2) := by decide +kernel
theorem d_Mo_typeOfName_14 : decode c_Mo_typeOfName 14 = .ok (.if_icmp .ne 12, 3) := by decide +kernel
theorem d_Mo_typeOfName_17 : decode c_Mo_typeOfName 17 = .ok (.aload_n 0, 1) := by decide +kernel
theorem d_Mo_typeOfName_18 : decode c_Mo_typeOfName 18 = .ok (.getfield 45, 3) := by decide +kernel
theorem d_Mo_typeOfName_21 : decode c_Mo_typeOfName 21 = .ok (.iload_n 2, 1) := by decide +kernel
theorem d_Mo_typeOfName_22 : decode c_Mo_typeOfName 22 = .ok (.iaload, 1) := by decide +kernel
theorem d_Mo_typeOfName_23 : decode c_Mo_typeOfName 23 = .ok (.goto 4, 3) := by decide +kernel
theorem d_Mo_typeOfName_26 : decode c_Mo_typeOfName 26 = .ok (.iconst 0, 1) := by decide +kernel
theorem d_Mo_typeOfName_27 : decode c_Mo_typeOfName 27 = .ok (.ireturn, 1) := by decide +kernel
theorem d_Mo_typeOver_0 : decode c_Mo_typeOver 0 = .ok (.aload_n 0, 1) := by decide +kernel
theorem d_Mo_typeOver_1 : decode c_Mo_typeOver 1 = .ok (.iload_n 1, 1) := by decide +kernel
theorem d_Mo_typeOver_2 : decode c_Mo_typeOver 2 = .ok (.iload_n 2, 1) := by decide +kernel
theorem d_Mo_typeOver_3 : decode c_Mo_typeOver 3 = .ok (.invokevirtual 88, 3) := by decide +kernel
theorem d_Mo_typeOver_6 : decode c_Mo_typeOver 6 = .ok (.istore_n 3, 1) := by decide +kernel
theorem d_Mo_typeOver_7 : decode c_Mo_typeOver 7 = .ok (.aload_n 0, 1) := by decide +kernel
theorem d_Mo_typeOver_8 : decode c_Mo_typeOver 8 = .ok (.invokevirtual 154, 3) := by decide +kernel
theorem d_Mo_typeOver_11 : decode c_Mo_typeOver 11 = .ok (.istore 4, 2) := by decide +kernel
theorem d_Mo_typeOver_13 : decode c_Mo_typeOver 13 = .ok (.iload_n 3, 1) := by decide +kernel
theorem d_Mo_typeOver_14 : decode c_Mo_typeOver 14 = .ok (.bipush 126, 2) := by decide +kernel
theorem d_Mo_typeOver_16 : decode c_Mo_typeOver 16 = .ok (.if_icmp .ne 15, 3) := by decide +kernel
theorem d_Mo_typeOver_19 : decode c_Mo_typeOver 19 = .ok (.iload 4, 2) := by decide +kernel
theorem d_Mo_typeOver_21 : decode c_Mo_typeOver 21 = .ok (.iconst 2, 1) := by decide +kernel
theorem d_Mo_typeOver_22 : decode c_Mo_typeOver 22 = .ok (.if_icmp .ne 7, 3) := by decide +kernel
theorem d_Mo_typeOver_25 : decode c_Mo_typeOver 25 = .ok (.iconst 2, 1) := by decide +kernel
theorem d_Mo_typeOver_26 : decode c_Mo_typeOver 26 = .ok (.goto 4, 3) := by decide +kernel
theorem d_Mo_typeOver_29 : decode c_Mo_typeOver 29 = .ok (.iconst 0, 1) := by decide +kernel
theorem d_Mo_typeOver_30 : decode c_Mo_typeOver 30 = .ok (.ireturn, 1) := by decide +kernel
theorem d_Mo_typeOver_31 : decode c_Mo_typeOver 31 = .ok (.iload_n 3, 1) := by decide +kernel
theorem d_Mo_typeOver_32 : decode c_Mo_typeOver 32 = .ok (.bipush 33, 2) := by decide +kernel
theorem d_Mo_typeOver_34 : decode c_Mo_typeOver 34 = .ok (.if_icmp .ne 34, 3) := by decide +kernel
theorem d_Mo_typeOver_37 : decode c_Mo_typeOver 37 = .ok (.iload 4, 2) := by decide +kernel
theorem d_Mo_typeOver_39 : decode c_Mo_typeOver 39 = .ok (.iconst 1, 1) := by decide +kernel
theorem d_Mo_typeOver_40 : decode c_Mo_typeOver 40 = .ok (.if_icmp .ne 26, 3) := by decide +kernel
theorem d_Mo_typeOver_43 : decode c_Mo_typeOver 43 = .ok (.aload_n 0, 1) := by decide +kernel
theorem d_Mo_typeOver_44 : decode c_Mo_typeOver 44 = .ok (.iload_n 1, 1) := by decide +kernel
theorem d_Mo_typeOver_45 : decode c_Mo_typeOver 45 = .ok (.aload_n 0, 1) := by decide +kernel
theorem d_Mo_typeOver_46 : decode c_Mo_typeOver 46 = .ok (.iload_n 1, 1) := by decide +kernel
theorem d_Mo_typeOver_47 : decode c_Mo_typeOver 47 = .ok (.iload_n 2, 1) := by decide +kernel
theorem d_Mo_typeOver_48 : decode c_Mo_typeOver 48 = .ok (.iconst 1, 1) := by decide +kernel
theorem d_Mo_typeOver_49 : decode c_Mo_typeOver 49 = .ok (.iadd, 1) := by decide +kernel
theorem d_Mo_typeOver_50 : decode c_Mo_typeOver 50 = .ok (.invokevirtual 88, 3) := by decide +kernel
theorem d_Mo_typeOver_53 : decode c_Mo_typeOver 53 = .ok (.bipush 97, 2) := by decide +kernel
theorem d_Mo_typeOver_55 : decode c_Mo_typeOver 55 = .ok (.isub, 1) := by decide +kernel
theorem d_Mo_typeOver_56 : decode c_Mo_typeOver 56 = .ok (.invokevirtual 158, 3) := by decide +kernel
theorem d_Mo_typeOver_59 : decode c_Mo_typeOver 59 = .ok (.ifCond .eq 7, 3) := by decide +kernel
theorem d_Mo_typeOver_62 : decode c_Mo_typeOver 62 = .ok (.iconst 1, 1) := by decide +kernel
theorem d_Mo_typeOver_63 : decode c_Mo_typeOver 63 = .ok (.goto 4, 3) := by decide +kernel
theorem d_Mo_typeOver_66 : decode c_Mo_typeOver 66 = .ok (.iconst 0, 1) := by decide +kernel
theorem d_Mo_typeOver_67 : decode c_Mo_typeOver 67 = .ok (.ireturn, 1) := by decide +kernel
theorem d_Mo_typeOver_68 : decode c_Mo_typeOver 68 = .ok (.aload_n 0, 1) := by decide +kernel
theorem d_Mo_typeOver_69 : decode c_Mo_typeOver 69 = .ok (.invokevirtual 154, 3) := by decide +kernel
theorem d_Mo_typeOver_72 : decode c_Mo_typeOver 72 = .ok (.istore 5, 2) := by decide +kernel
theorem d_Mo_typeOver_74 : decode c_Mo_typeOver 74 = .ok (.iload_n 3, 1) := by decide +kernel
theorem d_Mo_typeOver_75 : decode c_Mo_typeOver 75 = .ok (.bipush 36, 2) := by decide +kernel
theorem d_Mo_typeOver_77 : decode c_Mo_typeOver 77 = .ok (.if_icmp .ne 16, 3) := by decide +kernel
theorem d_Mo_typeOver_80 : decode c_Mo_typeOver 80 = .ok (.iload 4, 2) := by decide +kernel
theorem d_Mo_typeOver_82 : decode c_Mo_typeOver 82 = .ok (.iconst 1, 1) := by decide +kernel
theorem d_Mo_typeOver_83 : decode c_Mo_typeOver 83 = .ok (.if_icmp .ne 8, 3) := by decide +kernel
theorem d_Mo_typeOver_86 : decode c_Mo_typeOver 86 = .ok (.iload 5, 2) := by decide +kernel
theorem d_Mo_typeOver_88 : decode c_Mo_typeOver 88 = .ok (.goto 4, 3) := by decide +kernel
theorem d_Mo_typeOver_91 : decode c_Mo_typeOver 91 = .ok (.iconst 0, 1) := by decide +kernel
theorem d_Mo_typeOver_92 : decode c_Mo_typeOver 92 = .ok (.ireturn, 1) := by decide +kernel
theorem d_Mo_typeOver_93 : decode c_Mo_typeOver 93 = .ok (.iload_n 3, 1) := by decide +kernel
theorem d_Mo_typeOver_94 : decode c_Mo_typeOver 94 = .ok (.bipush 38, 2) := by decide +kernel
theorem d_Mo_typeOver_96 : decode c_Mo_typeOver 96 = .ok (.if_icmp .ne 21, 3) := by decide +kernel
theorem d_Mo_typeOver_99 : decode c_Mo_typeOver 99 = .ok (.iload 4, 2) := by decide +kernel
theorem d_Mo_typeOver_101 : decode c_Mo_typeOver 101 = .ok (.iconst 2, 1) := by decide +kernel
theorem d_Mo_typeOver_102 : decode c_Mo_typeOver 102 = .ok (.if_icmp .ne 13, 3) := by decide +kernel
theorem d_Mo_typeOver_105 : decode c_Mo_typeOver 105 = .ok (.iload 5, 2) := by decide +kernel
theorem d_Mo_typeOver_107 : decode c_Mo_typeOver 107 = .ok (.iconst 2, 1) := by decide +kernel
theorem d_Mo_typeOver_108 : decode c_Mo_typeOver 108 = .ok (.if_icmp .ne 7, 3) := by decide +kernel
theorem d_Mo_typeOver_111 : decode c_Mo_typeOver 111 = .ok (.iconst 2, 1) := by decide +kernel
theorem d_Mo_typeOver_112 : decode c_Mo_typeOver 112 = .ok (.goto 4, 3) := by decide +kernel
theorem d_Mo_typeOver_115 : decode c_Mo_typeOver 115 = .ok (.iconst 0, 1) := by decide +kernel
theorem d_Mo_typeOver_116 : decode c_Mo_typeOver 116 = .ok (.ireturn, 1) := by decide +kernel
theorem d_Mo_typeOver_117 : decode c_Mo_typeOver 117 = .ok (.iload_n 3, 1) := by decide +kernel
theorem d_Mo_typeOver_118 : decode c_Mo_typeOver 118 = .ok (.bipush 63, 2) := by decide +kernel
theorem d_Mo_typeOver_120 : decode c_Mo_typeOver 120 = .ok (.if_icmp .ne 29, 3) := by decide +kernel
theorem d_Mo_typeOver_123 : decode c_Mo_typeOver 123 = .ok (.aload_n 0, 1) := by decide +kernel
theorem d_Mo_typeOver_124 : decode c_Mo_typeOver 124 = .ok (.invokevirtual 154, 3) := by decide +kernel
theorem d_Mo_typeOver_127 : decode c_Mo_typeOver 127 = .ok (.istore 6, 2) := by decide +kernel
theorem d_Mo_typeOver_129 : decode c_Mo_typeOver 129 = .ok (.iload 4, 2) := by decide +kernel
theorem d_Mo_typeOver_131 : decode c_Mo_typeOver 131 = .ok (.iconst 2, 1) := by decide +kernel
theorem d_Mo_typeOver_132 : decode c_Mo_typeOver 132 = .ok (.if_icmp .ne 15, 3) := by decide +kernel
theorem d_Mo_typeOver_135 : decode c_Mo_typeOver 135 = .ok (.iload 5, 2) := by decide +kernel
theorem d_Mo_typeOver_137 : decode c_Mo_typeOver 137 = .ok (.iload 6, 2) := by decide +kernel
theorem d_Mo_typeOver_139 : decode c_Mo_typeOver 139 = .ok (.if_icmp .ne 8, 3) := by decide +kernel
theorem d_Mo_typeOver_142 : decode c_Mo_typeOver 142 = .ok (.iload 5, 2) := by decide +kernel
theorem d_Mo_typeOver_144 : decode c_Mo_typeOver 144 = .ok (.goto 4, 3) := by decide +kernel
theorem d_Mo_typeOver_147 : decode c_Mo_typeOver 147 = .ok (.iconst 0, 1) := by decide +kernel
theorem d_Mo_typeOver_148 : decode c_Mo_typeOver 148 = .ok (.ireturn, 1) := by decide +kernel
theorem d_Mo_typeOver_149 : decode c_Mo_typeOver 149 = .ok (.iload_n 3, 1) := by decide +kernel
theorem d_Mo_typeOver_150 : decode c_Mo_typeOver 150 = .ok (.bipush 35, 2) := by decide +kernel
theorem d_Mo_typeOver_152 : decode c_Mo_typeOver 152 = .ok (.if_icmp .ne 33, 3) := by decide +kernel
theorem d_Mo_typeOver_155 : decode c_Mo_typeOver 155 = .ok (.aload_n 0, 1) := by decide +kernel
theorem d_Mo_typeOver_156 : decode c_Mo_typeOver 156 = .ok (.invokevirtual 154, 3) := by decide +kernel
theorem d_Mo_typeOver_159 : decode c_Mo_typeOver 159 = .ok (.istore 6, 2) := by decide +kernel
theorem d_Mo_typeOver_161 : decode c_Mo_typeOver 161 = .ok (.iload 4, 2) := by decide +kernel
theorem d_Mo_typeOver_163 : decode c_Mo_typeOver 163 = .ok (.iconst 1, 1) := by decide +kernel
theorem d_Mo_typeOver_164 : decode c_Mo_typeOver 164 = .ok (.if_icmp .ne 19, 3) := by decide +kernel
theorem d_Mo_typeOver_167 : decode c_Mo_typeOver 167 = .ok (.iload 5, 2) := by decide +kernel
theorem d_Mo_typeOver_169 : decode c_Mo_typeOver 169 = .ok (.iconst 1, 1) := by decide +kernel
theorem d_Mo_typeOver_170 : decode c_Mo_typeOver 170 = .ok (.if_icmp .ne 13, 3) := by decide +kernel
theorem d_Mo_typeOver_173 : decode c_Mo_typeOver 173 = .ok (.iload 6, 2) := by decide +kernel
theorem d_Mo_typeOver_175 : decode c_Mo_typeOver 175 = .ok (.iconst 1, 1) := by decide +kernel
theorem d_Mo_typeOver_176 : decode c_Mo_typeOver 176 = .ok (.if_icmp .ne 7, 3) := by decide +kernel
theorem d_Mo_typeOver_179 : decode c_Mo_typeOver 179 = .ok (.iconst 1, 1) := by decide +kernel
theorem d_Mo_typeOver_180 : decode c_Mo_typeOver 180 = .ok (.goto 4, 3) := by decide +kernel
theorem d_Mo_typeOver_183 : decode c_Mo_typeOver 183 = .ok (.iconst 0, 1) := by decide +kernel
theorem d_Mo_typeOver_184 : decode c_Mo_typeOver 184 = .ok (.ireturn, 1) := by decide +kernel
theorem d_Mo_typeOver_185 : decode c_Mo_typeOver 185 = .ok (.iload 4, 2) := by decide +kernel
theorem d_Mo_typeOver_187 : decode c_Mo_typeOver 187 = .ok (.iconst 1, 1) := by decide +kernel
theorem d_Mo_typeOver_188 : decode c_Mo_typeOver 188 = .ok (.if_icmp .ne 9, 3) := by decide +kernel
theorem d_Mo_typeOver_191 : decode c_Mo_typeOver 191 = .ok (.iload 5, 2) := by decide +kernel
theorem d_Mo_typeOver_193 : decode c_Mo_typeOver 193 = .ok (.iconst 1, 1) := by decide +kernel
theorem d_Mo_typeOver_194 : decode c_Mo_typeOver 194 = .ok (.if_icmp .eq 7, 3) := by decide +kernel
theorem d_Mo_typeOver_197 : decode c_Mo_typeOver 197 = .ok (.iconst 0, 1) := by decide +kernel
theorem d_Mo_typeOver_198 : decode c_Mo_typeOver 198 = .ok (.goto 20, 3) := by decide +kernel
theorem d_Mo_typeOver_201 : decode c_Mo_typeOver 201 = .ok (.iload_n 3, 1) := by decide +kernel
theorem d_Mo_typeOver_202 : decode c_Mo_typeOver 202 = .ok (.bipush 60, 2) := by decide +kernel
theorem d_Mo_typeOver_204 : decode c_Mo_typeOver 204 = .ok (.if_icmp .eq 9, 3) := by decide +kernel
theorem d_Mo_typeOver_207 : decode c_Mo_typeOver 207 = .ok (.iload_n 3, 1) := by decide +kernel
theorem d_Mo_typeOver_208 : decode c_Mo_typeOver 208 = .ok (.bipush 61, 2) := by decide +kernel
theorem d_Mo_typeOver_210 : decode c_Mo_typeOver 210 = .ok (.if_icmp .ne 7, 3) := by decide +kernel
theorem d_Mo_typeOver_213 : decode c_Mo_typeOver 213 = .ok (.iconst 2, 1) := by decide +kernel
theorem d_Mo_typeOver_214 : decode c_Mo_typeOver 214 = .ok (.goto 4, 3) := by decide +kernel
theorem d_Mo_typeOver_217 : decode c_Mo_typeOver 217 = .ok (.iconst 1, 1) := by decide +kernel
theorem d_Mo_typeOver_218 : decode c_Mo_typeOver 218 = .ok (.ireturn, 1) := by decide +kernel
theorem d_Mo_popType_0 : decode c_Mo_popType 0 = .ok (.aload_n 0, 1) := by decide +kernel
theorem d_Mo_popType_1 : decode c_Mo_popType 1 = .ok (.dup, 1) := by decide +kernel
theorem d_Mo_popType_2 : decode c_Mo_popType 2 = .ok (.getfield 151, 3) := by decide +kernel
theorem d_Mo_popType_5 : decode c_Mo_popType 5 = .ok (.iconst 1, 1) := by decide +kernel
theorem d_Mo_popType_6 : decode c_Mo_popType 6 = .ok (.isub, 1) := by decide +kernel
theorem d_Mo_popType_7 : decode c_Mo_popType 7 = .ok (.putfield 151, 3) := by decide +kernel
theorem d_Mo_popType_10 : decode c_Mo_popType 10 = .ok (.aload_n 0, 1) := by decide +kernel
theorem d_Mo_popType_11 : decode c_Mo_popType 11 = .ok (.getfield 57, 3) := by decide +kernel
theorem d_Mo_popType_14 : decode c_Mo_popType 14 = .ok (.aload_n 0, 1) := by decide +kernel
theorem d_Mo_popType_15 : decode c_Mo_popType 15 = .ok (.getfield 151, 3) := by decide +kernel
theorem d_Mo_popType_18 : decode c_Mo_popType 18 = .ok (.iaload, 1) := by decide +kernel
theorem d_Mo_popType_19 : decode c_Mo_popType 19 = .ok (.ireturn, 1) := by decide +kernel
theorem d_Mo_isFunctionName_0 : decode c_Mo_isFunctionName 0 = .ok (.aload_n 0, 1) := by decide +kernel
theorem d_Mo_isFunctionName_1 : decode c_Mo_isFunctionName 1 = .ok (.iload_n 2, 1) := by decide +kernel
theorem d_Mo_isFunctionName_2 : decode c_Mo_isFunctionName 2 = .ok (.invokevirtual 131, 3) := by decide +kernel
theorem d_Mo_isFunctionName_5 : decode c_Mo_isFunctionName 5 = .ok (.istore_n 3, 1) := by decide +kernel
theorem d_Mo_isFunctionName_6 : decode c_Mo_isFunctionName 6 = .ok (.iload_n 3, 1) := by decide +kernel
theorem d_Mo_isFunctionName_7 : decode c_Mo_isFunctionName 7 = .ok (.iload_n 1, 1) := by decide +kernel
theorem d_Mo_isFunctionName_8 : decode c_Mo_isFunctionName 8 = .ok (.if_icmp .ne 11, 3) := by decide +kernel
theorem d_Mo_isFunctionName_11 : decode c_Mo_isFunctionName 11 = .ok (.aload_n 0, 1) := by decide +kernel
theorem d_Mo_isFunctionName_12 : decode c_Mo_isFunctionName 12 = .ok (.iload_n 1, 1) := by decide +kernel
theorem d_Mo_isFunctionName_13 : decode c_Mo_isFunctionName 13 = .ok (.invokevirtual 116, 3) := by decide +kernel
theorem d_Mo_isFunctionName_16 : decode c_Mo_isFunctionName 16 = .ok (.goto 19, 3) := by decide +kernel
theorem d_Mo_isFunctionName_19 : decode c_Mo_isFunctionName 19 = .ok (.aload_n 0, 1) := by decide +kernel
theorem d_Mo_isFunctionName_20 : decode c_Mo_isFunctionName 20 = .ok (.getfield 39, 3) := by decide +kernel
theorem d_Mo_isFunctionName_23 : decode c_Mo_isFunctionName 23 = .ok (.iload_n 3, 1) := by decide +kernel
theorem d_Mo_isFunctionName_24 : decode c_Mo_isFunctionName 24 = .ok (.iaload, 1) := by decide +kernel
theorem d_Mo_isFunctionName_25 : decode c_Mo_isFunctionName 25 = .ok (.bipush 13, 2) := by decide +kernel
theorem d_Mo_isFunctionName_27 : decode c_Mo_isFunctionName 27 = .ok (.if_icmp .ne 7, 3) := by decide +kernel
theorem d_Mo_isFunctionName_30 : decode c_Mo_isFunctionName 30 = .ok (.iconst 1, 1) := by decide +kernel
theorem d_Mo_isFunctionName_31 : decode c_Mo_isFunctionName 31 = .ok (.goto 4, 3) := by decide +kernel
theorem d_Mo_isFunctionName_34 : decode c_Mo_isFunctionName 34 = .ok (.iconst 0, 1) := by decide +kernel
theorem d_Mo_isFunctionName_35 : decode c_Mo_isFunctionName 35 = .ok (.ireturn, 1) := by decide +kernel
theorem d_Mo_pushType_0 : decode c_Mo_pushType 0 = .ok (.aload_n 0, 1) := by decide +kernel
theorem d_Mo_pushType_1 : decode c_Mo_pushType 1 = .ok (.getfield 57, 3) := by decide +kernel
theorem d_Mo_pushType_4 : decode c_Mo_pushType 4 = .ok (.aload_n 0, 1) := by decide +kernel
theorem d_Mo_pushType_5 : decode c_Mo_pushType 5 = .ok (.getfield 151, 3) := by decide +kernel
theorem d_Mo_pushType_8 : decode c_Mo_pushType 8 = .ok (.iload_n 1, 1) := by decide +kernel
theorem d_Mo_pushType_9 : decode c_Mo_pushType 9 = .ok (.iastore, 1) := by decide +kernel
theorem d_Mo_pushType_10 : decode c_Mo_pushType 10 = .ok (.aload_n 0, 1) := by decide +kernel
theorem d_Mo_pushType_11 : decode c_Mo_pushType 11 = .ok (.dup, 1) := by decide +kernel
theorem d_Mo_pushType_12 : decode c_Mo_pushType 12 = .ok (.getfield 151, 3) := by decide +kernel
theorem d_Mo_pushType_15 : decode c_Mo_pushType 15 = .ok (.iconst 1, 1) := by decide +kernel
theorem d_Mo_pushType_16 : decode c_Mo_pushType 16 = .ok (.iadd, 1) := by decide +kernel
theorem d_Mo_pushType_17 : decode c_Mo_pushType 17 = .ok (.putfield 151, 3) := by decide +kernel
theorem d_Mo_pushType_20 : decode c_Mo_pushType 20 = .ok (.return_, 1) := by decide +kernel
theorem d_Mo_evaluate_0 : decode c_Mo_evaluate 0 = .ok (.aload_n 0, 1) := by decide +kernel
theorem d_Mo_evaluate_1 : decode c_Mo_evaluate 1 = .ok (.getfield 48, 3) := by decide +kernel
theorem d_Mo_evaluate_4 : decode c_Mo_evaluate 4 = .ok (.iload_n 1, 1) := by decide +kernel
theorem d_Mo_evaluate_5 : decode c_Mo_evaluate 5 = .ok (.dup2, 1) := by decide +kernel
theorem d_Mo_evaluate_6 : decode c_Mo_evaluate 6 = .ok (.iaload, 1) := by decide +kernel
theorem d_Mo_evaluate_7 : decode c_Mo_evaluate 7 = .ok (.iconst 1, 1) := by decide +kernel
theorem d_Mo_evaluate_8 : decode c_Mo_evaluate 8 = .ok (.iadd, 1) := by decide +kernel
theorem d_Mo_evaluate_9 : decode c_Mo_evaluate 9 = .ok (.iastore, 1) := by decide +kernel
theorem d_Mo_evaluate_10 : decode c_Mo_evaluate 10 = .ok (.aload_n 0, 1) := by decide +kernel
theorem d_Mo_evaluate_11 : decode c_Mo_evaluate 11 = .ok (.iconst 0, 1) := by decide +kernel
theorem d_Mo_evaluate_12 : decode c_Mo_evaluate 12 = .ok (.putfield 182, 3) := by decide +kernel
theorem d_Mo_evaluate_15 : decode c_Mo_evaluate 15 = .ok (.aload_n 0, 1) := by decide +kernel
theorem d_Mo_evaluate_16 : decode c_Mo_evaluate 16 = .ok (.iconst 0, 1) := by decide +kernel
theorem d_Mo_evaluate_17 : decode c_Mo_evaluate 17 = .ok (.putfield 191, 3) := by decide +kernel
theorem d_Mo_evaluate_20 : decode c_Mo_evaluate 20 = .ok (.aload_n 0, 1) := by decide +kernel
theorem d_Mo_evaluate_21 : decode c_Mo_evaluate 21 = .ok (.iconst 0, 1) := by decide +kernel
theorem d_Mo_evaluate_22 : decode c_Mo_evaluate 22 = .ok (.putfield 173, 3) := by decide +kernel
theorem d_Mo_evaluate_25 : decode c_Mo_evaluate 25 = .ok (.aload_n 0, 1) := by decide +kernel
theorem d_Mo_evaluate_26 : decode c_Mo_evaluate 26 = .ok (.iconst 0, 1) := by decide +kernel
theorem d_Mo_evaluate_27 : decode c_Mo_evaluate 27 = .ok (.putfield 176, 3) := by decide +kernel
theorem d_Mo_evaluate_30 : decode c_Mo_evaluate 30 = .ok (.aload_n 0, 1) := by decide +kernel
theorem d_Mo_evaluate_31 : decode c_Mo_evaluate 31 = .ok (.iload_n 1, 1) := by decide +kernel
theorem d_Mo_evaluate_32 : decode c_Mo_evaluate 32 = .ok (.iconst 0, 1) := by decide +kernel
theorem d_Mo_evaluate_33 : decode c_Mo_evaluate 33 = .ok (.invokevirtual 194, 3) := by decide +kernel
theorem d_Mo_evaluate_36 : decode c_Mo_evaluate 36 = .ok (.aload_n 0, 1) := by decide +kernel
theorem d_Mo_evaluate_37 : decode c_Mo_evaluate 37 = .ok (.getfield 182, 3) := by decide +kernel
theorem d_Mo_evaluate_40 : decode c_Mo_evaluate 40 = .ok (.ifCond .le 17, 3) := by decide +kernel
theorem d_Mo_evaluate_43 : decode c_Mo_evaluate 43 = .ok (.aload_n 0, 1) := by decide +kernel
theorem d_Mo_evaluate_44 : decode c_Mo_evaluate 44 = .ok (.getfield 176, 3) := by decide +kernel
theorem d_Mo_evaluate_47 : decode c_Mo_evaluate 47 = .ok (.ifCond .ne 10, 3) := by decide +kernel
theorem d_Mo_evaluate_50 : decode c_Mo_evaluate 50 = .ok (.aload_n 0, 1) := by decide +kernel
theorem d_Mo_evaluate_51 : decode c_Mo_evaluate 51 = .ok (.invokevirtual 215, 3) := by decide +kernel
theorem d_Mo_evaluate_54 : decode c_Mo_evaluate 54 = .ok (.goto (-18), 3) := by decide +kernel
theorem d_Mo_evaluate_57 : decode c_Mo_evaluate 57 = .ok (.aload_n 0, 1) := by decide +kernel
theorem d_Mo_evaluate_58 : decode c_Mo_evaluate 58 = .ok (.getfield 39, 3) := by decide +kernel
theorem d_Mo_evaluate_61 : decode c_Mo_evaluate 61 = .ok (.iload_n 1, 1) := by decide +kernel
theorem d_Mo_evaluate_62 : decode c_Mo_evaluate 62 = .ok (.aload_n 0, 1) := by decide +kernel
theorem d_Mo_evaluate_63 : decode c_Mo_evaluate 63 = .ok (.getfield 176, 3) := by decide +kernel
theorem d_Mo_evaluate_66 : decode c_Mo_evaluate 66 = .ok (.ifCond .eq 10, 3) := by decide +kernel
theorem d_Mo_evaluate_69 : decode c_Mo_evaluate 69 = .ok (.aload_n 0, 1) := by decide +kernel
theorem d_Mo_evaluate_70 : decode c_Mo_evaluate 70 = .ok (.getfield 176, 3) := by decide +kernel
theorem d_Mo_evaluate_73 : decode c_Mo_evaluate 73 = .ok (.goto 5, 3) := by decide +kernel
theorem d_Mo_evaluate_76 : decode c_Mo_evaluate 76 = .ok (.bipush 14, 2) := by decide +kernel
theorem d_Mo_evaluate_78 : decode c_Mo_evaluate 78 = .ok (.iastore, 1) := by decide +kernel
theorem d_Mo_evaluate_79 : decode c_Mo_evaluate 79 = .ok (.aload_n 0, 1) := by decide +kernel
theorem d_Mo_evaluate_80 : decode c_Mo_evaluate 80 = .ok (.getfield 42, 3) := by decide +kernel
theorem d_Mo_evaluate_83 : decode c_Mo_evaluate 83 = .ok (.iload_n 1, 1) := by decide +kernel
theorem d_Mo_evaluate_84 : decode c_Mo_evaluate 84 = .ok (.aload_n 0, 1) := by decide +kernel
theorem d_Mo_evaluate_85 : decode c_Mo_evaluate 85 = .ok (.getfield 185, 3) := by decide +kernel
theorem d_Mo_evaluate_88 : decode c_Mo_evaluate 88 = .ok (.iastore, 1) := by decide +kernel
theorem d_Mo_evaluate_89 : decode c_Mo_evaluate 89 = .ok (.aload_n 0, 1) := by decide +kernel
theorem d_Mo_evaluate_90 : decode c_Mo_evaluate 90 = .ok (.getfield 45, 3) := by decide +kernel
theorem d_Mo_evaluate_93 : decode c_Mo_evaluate 93 = .ok (.iload_n 1, 1) := by decide +kernel
theorem d_Mo_evaluate_94 : decode c_Mo_evaluate 94 = .ok (.iload_n 2, 1) := by decide +kernel
theorem d_Mo_evaluate_95 : decode c_Mo_evaluate 95 = .ok (.iastore, 1) := by decide +kernel
theorem d_Mo_evaluate_96 : decode c_Mo_evaluate 96 = .ok (.return_, 1) := by decide +kernel
theorem d_Mo_enter_0 : decode c_Mo_enter 0 = .ok (.aload_n 0, 1) := by decide +kernel
theorem d_Mo_enter_1 : decode c_Mo_enter 1 = .ok (.getfield 173, 3) := by decide +kernel
theorem d_Mo_enter_4 : decode c_Mo_enter 4 = .ok (.sipush 2000, 3) := by decide +kernel
theorem d_Mo_enter_7 : decode c_Mo_enter 7 = .ok (.if_icmp .ne 10, 3) := by decide +kernel
theorem d_Mo_enter_10 : decode c_Mo_enter 10 = .ok (.aload_n 0, 1) := by decide +kernel
theorem d_Mo_enter_11 : decode c_Mo_enter 11 = .ok (.bipush 10, 2) := by decide +kernel
theorem d_Mo_enter_13 : decode c_Mo_enter 13 = .ok (.putfield 176, 3) := by decide +kernel
theorem d_Mo_enter_16 : decode c_Mo_enter 16 = .ok (.return_, 1) := by decide +kernel
theorem d_Mo_enter_17 : decode c_Mo_enter 17 = .ok (.aload_n 0, 1) := by decide +kernel
theorem d_Mo_enter_18 : decode c_Mo_enter 18 = .ok (.dup, 1) := by decide +kernel
theorem d_Mo_enter_19 : decode c_Mo_enter 19 = .ok (.getfield 173, 3) := by decide +kernel
theorem d_Mo_enter_22 : decode c_Mo_enter 22 = .ok (.iconst 1, 1) := by decide +kernel
theorem d_Mo_enter_23 : decode c_Mo_enter 23 = .ok (.iadd, 1) := by decide +kernel
theorem d_Mo_enter_24 : decode c_Mo_enter 24 = .ok (.putfield 173, 3) := by decide +kernel
theorem d_Mo_enter_27 : decode c_Mo_enter 27 = .ok (.aload_n 0, 1) := by decide +kernel
theorem d_Mo_enter_28 : decode c_Mo_enter 28 = .ok (.dup, 1) := by decide +kernel
theorem d_Mo_enter_29 : decode c_Mo_enter 29 = .ok (.getfield 179, 3) := by decide +kernel
theorem d_Mo_enter_32 : decode c_Mo_enter 32 = .ok (.iconst 1, 1) := by decide +kernel
theorem d_Mo_enter_33 : decode c_Mo_enter 33 = .ok (.iadd, 1) := by decide +kernel
theorem d_Mo_enter_34 : decode c_Mo_enter 34 = .ok (.putfield 179, 3) := by decide +kernel
theorem d_Mo_enter_37 : decode c_Mo_enter 37 = .ok (.aload_n 0, 1) := by decide +kernel
theorem d_Mo_enter_38 : decode c_Mo_enter 38 = .ok (.getfield 60, 3) := by decide +kernel
theorem d_Mo_enter_41 : decode c_Mo_enter 41 = .ok (.aload_n 0, 1) := by decide +kernel
theorem d_Mo_enter_42 : decode c_Mo_enter 42 = .ok (.getfield 182, 3) := by decide +kernel
theorem d_Mo_enter_45 : decode c_Mo_enter 45 = .ok (.iload_n 1, 1) := by decide +kernel
theorem d_Mo_enter_46 : decode c_Mo_enter 46 = .ok (.iastore, 1) := by decide +kernel
theorem d_Mo_enter_47 : decode c_Mo_enter 47 = .ok (.aload_n 0, 1) := by decide +kernel
theorem d_Mo_enter_48 : decode c_Mo_enter 48 = .ok (.getfield 63, 3) := by decide +kernel
theorem d_Mo_enter_51 : decode c_Mo_enter 51 = .ok (.aload_n 0, 1) := by decide +kernel
theorem d_Mo_enter_52 : decode c_Mo_enter 52 = .ok (.getfield 182, 3) := by decide +kernel
theorem d_Mo_enter_55 : decode c_Mo_enter 55 = .ok (.iload_n 2, 1) := by decide +kernel
theorem d_Mo_enter_56 : decode c_Mo_enter 56 = .ok (.iastore, 1) := by decide +kernel
theorem d_Mo_enter_57 : decode c_Mo_enter 57 = .ok (.aload_n 0, 1) := by decide +kernel
theorem d_Mo_enter_58 : decode c_Mo_enter 58 = .ok (.getfield 66, 3) := by decide +kernel
theorem d_Mo_enter_61 : decode c_Mo_enter 61 = .ok (.aload_n 0, 1) := by decide +kernel
theorem d_Mo_enter_62 : decode c_Mo_enter 62 = .ok (.getfield 182, 3) := by decide +kernel
theorem d_Mo_enter_65 : decode c_Mo_enter 65 = .ok (.iconst 0, 1) := by decide +kernel
theorem d_Mo_enter_66 : decode c_Mo_enter 66 = .ok (.iastore, 1) := by decide +kernel
theorem d_Mo_enter_67 : decode c_Mo_enter 67 = .ok (.aload_n 0, 1) := by decide +kernel
theorem d_Mo_enter_68 : decode c_Mo_enter 68 = .ok (.dup, 1) := by decide +kernel
theorem d_Mo_enter_69 : decode c_Mo_enter 69 = .ok (.getfield 182, 3) := by decide +kernel
theorem d_Mo_enter_72 : decode c_Mo_enter 72 = .ok (.iconst 1, 1) := by decide +kernel
theorem d_Mo_enter_73 : decode c_Mo_enter 73 = .ok (.iadd, 1) := by decide +kernel
theorem d_Mo_enter_74 : decode c_Mo_enter 74 = .ok (.putfield 182, 3) := by decide +kernel
theorem d_Mo_enter_77 : decode c_Mo_enter 77 = .ok (.return_, 1) := by decide +kernel
theorem d_Mo_goOn_0 : decode c_Mo_goOn 0 = .ok (.aload_n 0, 1) := by decide +kernel
theorem d_Mo_goOn_1 : decode c_Mo_goOn 1 = .ok (.getfield 182, 3) := by decide +kernel
theorem d_Mo_goOn_4 : decode c_Mo_goOn 4 = .ok (.iconst 1, 1) := by decide +kernel
theorem d_Mo_goOn_5 : decode c_Mo_goOn 5 = .ok (.isub, 1) := by decide +kernel
theorem d_Mo_goOn_6 : decode c_Mo_goOn 6 = .ok (.istore_n 1, 1) := by decide +kernel
theorem d_Mo_goOn_7 : decode c_Mo_goOn 7 = .ok (.aload_n 0, 1) := by decide +kernel
theorem d_Mo_goOn_8 : decode c_Mo_goOn 8 = .ok (.getfield 60, 3) := by decide +kernel
theorem d_Mo_goOn_11 : decode c_Mo_goOn 11 = .ok (.iload_n 1, 1) := by decide +kernel
theorem d_Mo_goOn_12 : decode c_Mo_goOn 12 = .ok (.iaload, 1) := by decide +kernel
theorem d_Mo_goOn_13 : decode c_Mo_goOn 13 = .ok (.istore_n 2, 1) := by decide +kernel
theorem d_Mo_goOn_14 : decode c_Mo_goOn 14 = .ok (.aload_n 0, 1) := by decide +kernel
theorem d_Mo_goOn_15 : decode c_Mo_goOn 15 = .ok (.getfield 63, 3) := by decide +kernel
theorem d_Mo_goOn_18 : decode c_Mo_goOn 18 = .ok (.iload_n 1, 1) := by decide +kernel
theorem d_Mo_goOn_19 : decode c_Mo_goOn 19 = .ok (.iaload, 1) := by decide +kernel
theorem d_Mo_goOn_20 : decode c_Mo_goOn 20 = .ok (.istore_n 3, 1) := by decide +kernel
theorem d_Mo_goOn_21 : decode c_Mo_goOn 21 = .ok (.aload_n 0, 1) := by decide +kernel
theorem d_Mo_goOn_22 : decode c_Mo_goOn 22 = .ok (.iload_n 2, 1) := by decide +kernel
theorem d_Mo_goOn_23 : decode c_Mo_goOn 23 = .ok (.iload_n 3, 1) := by decide +kernel
theorem d_Mo_goOn_24 : decode c_Mo_goOn 24 = .ok (.invokevirtual 88, 3) := by decide +kernel
theorem d_Mo_goOn_27 : decode c_Mo_goOn 27 = .ok (.istore 4, 2) := by decide +kernel
theorem d_Mo_goOn_29 : decode c_Mo_goOn 29 = .ok (.aload_n 0, 1) := by decide +kernel
theorem d_Mo_goOn_30 : decode c_Mo_goOn 30 = .ok (.getfield 66, 3) := by decide +kernel
theorem d_Mo_goOn_33 : decode c_Mo_goOn 33 = .ok (.iload_n 1, 1) := by decide +kernel
theorem d_Mo_goOn_34 : decode c_Mo_goOn 34 = .ok (.iaload, 1) := by decide +kernel
theorem d_Mo_goOn_35 : decode c_Mo_goOn 35 = .ok (.istore 5, 2) := by decide +kernel
theorem d_Mo_goOn_37 : decode c_Mo_goOn 37 = .ok (.aload_n 0, 1) := by decide +kernel
theorem d_Mo_goOn_38 : decode c_Mo_goOn 38 = .ok (.getfield 66, 3) := by decide +kernel
theorem d_Mo_goOn_41 : decode c_Mo_goOn 41 = .ok (.iload_n 1, 1) := by decide +kernel
theorem d_Mo_goOn_42 : decode c_Mo_goOn 42 = .ok (.iload 5, 2) := by decide +kernel
theorem d_Mo_goOn_44 : decode c_Mo_goOn 44 = .ok (.iconst 1, 1) := by decide +kernel
theorem d_Mo_goOn_45 : decode c_Mo_goOn 45 = .ok (.iadd, 1) := by decide +kernel
theorem d_Mo_goOn_46 : decode c_Mo_goOn 46 = .ok (.iastore, 1) := by decide +kernel
theorem d_Mo_goOn_47 : decode c_Mo_goOn 47 = .ok (.iload 4, 2) := by decide +kernel
theorem d_Mo_goOn_49 : decode c_Mo_goOn 49 = .ok (.invokestatic 95, 3) := by decide +kernel
theorem d_Mo_goOn_52 : decode c_Mo_goOn 52 = .ok (.ifCond .eq 15, 3) := by decide +kernel
theorem d_Mo_goOn_55 : decode c_Mo_goOn 55 = .ok (.aload_n 0, 1) := by decide +kernel
theorem d_Mo_goOn_56 : decode c_Mo_goOn 56 = .ok (.iload 4, 2) := by decide +kernel
theorem d_Mo_goOn_58 : decode c_Mo_goOn 58 = .ok (.bipush 48, 2) := by decide +kernel
theorem d_Mo_goOn_60 : decode c_Mo_goOn 60 = .ok (.isub, 1) := by decide +kernel
theorem d_Mo_goOn_61 : decode c_Mo_goOn 61 = .ok (.invokevirtual 188, 3) := by decide +kernel
theorem d_Mo_goOn_64 : decode c_Mo_goOn 64 = .ok (.goto 284, 3) := by decide +kernel
theorem d_Mo_goOn_67 : decode c_Mo_goOn 67 = .ok (.iload 4, 2) := by decide +kernel
theorem d_Mo_goOn_69 : decode c_Mo_goOn 69 = .ok (.invokestatic 99, 3) := by decide +kernel
theorem d_Mo_goOn_72 : decode c_Mo_goOn 72 = .ok (.ifCond .eq 24, 3) := by decide +kernel
theorem d_Mo_goOn_75 : decode c_Mo_goOn 75 = .ok (.aload_n 0, 1) := by decide +kernel
theorem d_Mo_goOn_76 : decode c_Mo_goOn 76 = .ok (.aload_n 0, 1) := by decide +kernel
theorem d_Mo_goOn_77 : decode c_Mo_goOn 77 = .ok (.getfield 42, 3) := by decide +kernel
theorem d_Mo_goOn_80 : decode c_Mo_goOn 80 = .ok (.aload_n 0, 1) := by decide +kernel
theorem d_Mo_goOn_81 : decode c_Mo_goOn 81 = .ok (.iload 4, 2) := by decide +kernel
theorem d_Mo_goOn_83 : decode c_Mo_goOn 83 = .ok (.bipush 97, 2) := by decide +kernel
theorem d_Mo_goOn_85 : decode c_Mo_goOn 85 = .ok (.isub, 1) := by decide +kernel
theorem d_Mo_goOn_86 : decode c_Mo_goOn 86 = .ok (.invokevirtual 131, 3) := by decide +kernel
theorem d_Mo_goOn_89 : decode c_Mo_goOn 89 = .ok (.iaload, 1) := by decide +kernel
theorem d_Mo_goOn_90 : decode c_Mo_goOn 90 = .ok (.invokevirtual 188, 3) := by decide +kernel
theorem d_Mo_goOn_93 : decode c_Mo_goOn 93 = .ok (.goto 255, 3) := by decide +kernel
theorem d_Mo_goOn_96 : decode c_Mo_goOn 96 = .ok (.iload 4, 2) := by decide +kernel
theorem d_Mo_goOn_98 : decode c_Mo_goOn 98 = .ok (.invokestatic 102, 3) := by decide +kernel
theorem d_Mo_goOn_101 : decode c_Mo_goOn 101 = .ok (.ifCond .eq 28, 3) := by decide +kernel
theorem d_Mo_goOn_104 : decode c_Mo_goOn 104 = .ok (.aload_n 0, 1) := by decide +kernel
theorem d_Mo_goOn_105 : decode c_Mo_goOn 105 = .ok (.aload_n 0, 1) := by decide +kernel
theorem d_Mo_goOn_106 : decode c_Mo_goOn 106 = .ok (.getfield 72, 3) := by decide +kernel
theorem d_Mo_goOn_109 : decode c_Mo_goOn 109 = .ok (.bipush 6, 2) := by decide +kernel
theorem d_Mo_goOn_111 : decode c_Mo_goOn 111 = .ok (.aload_n 0, 1) := by decide +kernel
theorem d_Mo_goOn_112 : decode c_Mo_goOn 112 = .ok (.getfield 191, 3) := by decide +kernel
theorem d_Mo_goOn_115 : decode c_Mo_goOn 115 = .ok (.imul, 1) := by decide +kernel
theorem d_Mo_goOn_116 : decode c_Mo_goOn 116 = .ok (.iload 4, 2) := by decide +kernel
theorem d_Mo_goOn_118 : decode c_Mo_goOn 118 = .ok (.iadd, 1) := by decide +kernel
theorem d_Mo_goOn_119 : decode c_Mo_goOn 119 = .ok (.bipush 107, 2) := by decide +kernel
theorem d_Mo_goOn_121 : decode c_Mo_goOn 121 = .ok (.isub, 1) := by decide +kernel
theorem d_Mo_goOn_122 : decode c_Mo_goOn 122 = .ok (.iaload, 1) := by decide +kernel
theorem d_Mo_goOn_123 : decode c_Mo_goOn 123 = .ok (.invokevirtual 188, 3) := by decide +kernel
theorem d_Mo_goOn_126 : decode c_Mo_goOn 126 = .ok (.goto 222, 3) := by decide +kernel
theorem d_Mo_goOn_129 : decode c_Mo_goOn 129 = .ok (.iload 5, 2) := by decide +kernel
theorem d_Mo_goOn_131 : decode c_Mo_goOn 131 = .ok (.ifCond .ne 34, 3) := by decide +kernel
theorem d_Mo_goOn_134 : decode c_Mo_goOn 134 = .ok (.aload_n 0, 1) := by decide +kernel
theorem d_Mo_goOn_135 : decode c_Mo_goOn 135 = .ok (.iload_n 2, 1) := by decide +kernel
theorem d_Mo_goOn_136 : decode c_Mo_goOn 136 = .ok (.iload 4, 2) := by decide +kernel
theorem d_Mo_goOn_138 : decode c_Mo_goOn 138 = .ok (.bipush 36, 2) := by decide +kernel
theorem d_Mo_goOn_140 : decode c_Mo_goOn 140 = .ok (.if_icmp .eq 10, 3) := by decide +kernel
theorem d_Mo_goOn_143 : decode c_Mo_goOn 143 = .ok (.iload 4, 2) := by decide +kernel
theorem d_Mo_goOn_145 : decode c_Mo_goOn 145 = .ok (.bipush 33, 2) := by decide +kernel
theorem d_Mo_goOn_147 : decode c_Mo_goOn 147 = .ok (.if_icmp .ne 9, 3) := by decide +kernel
theorem d_Mo_goOn_150 : decode c_Mo_goOn 150 = .ok (.iload_n 3, 1) := by decide +kernel
theorem d_Mo_goOn_151 : decode c_Mo_goOn 151 = .ok (.iconst 2, 1) := by decide +kernel
theorem d_Mo_goOn_152 : decode c_Mo_goOn 152 = .ok (.iadd, 1) := by decide +kernel
theorem d_Mo_goOn_153 : decode c_Mo_goOn 153 = .ok (.goto 6, 3) := by decide +kernel
theorem d_Mo_goOn_156 : decode c_Mo_goOn 156 = .ok (.iload_n 3, 1) := by decide +kernel
theorem d_Mo_goOn_157 : decode c_Mo_goOn 157 = .ok (.iconst 1, 1) := by decide +kernel
theorem d_Mo_goOn_158 : decode c_Mo_goOn 158 = .ok (.iadd, 1) := by decide +kernel
theorem d_Mo_goOn_159 : decode c_Mo_goOn 159 = .ok (.invokevirtual 194, 3) := by decide +kernel
theorem d_Mo_goOn_162 : decode c_Mo_goOn 162 = .ok (.goto 186, 3) := by decide +kernel
theorem d_Mo_goOn_165 : decode c_Mo_goOn 165 = .ok (.iload 4, 2) := by decide +kernel
theorem d_Mo_goOn_167 : decode c_Mo_goOn 167 = .ok (.bipush 126, 2) := by decide +kernel
theorem d_Mo_goOn_169 : decode c_Mo_goOn 169 = .ok (.if_icmp .ne 16, 3) := by decide +kernel
theorem d_Mo_goOn_172 : decode c_Mo_goOn 172 = .ok (.aload_n 0, 1) := by decide +kernel
theorem d_Mo_goOn_173 : decode c_Mo_goOn 173 = .ok (.iconst 1, 1) := by decide +kernel
theorem d_Mo_goOn_174 : decode c_Mo_goOn 174 = .ok (.aload_n 0, 1) := by decide +kernel
theorem d_Mo_goOn_175 : decode c_Mo_goOn 175 = .ok (.getfield 185, 3) := by decide +kernel
theorem d_Mo_goOn_178 : decode c_Mo_goOn 178 = .ok (.isub, 1) := by decide +kernel
theorem d_Mo_goOn_179 : decode c_Mo_goOn 179 = .ok (.invokevirtual 188, 3) := by decide +kernel
theorem d_Mo_goOn_182 : decode c_Mo_goOn 182 = .ok (.goto 166, 3) := by decide +kernel
theorem d_Mo_goOn_185 : decode c_Mo_goOn 185 = .ok (.iload 4, 2) := by decide +kernel
theorem d_Mo_goOn_187 : decode c_Mo_goOn 187 = .ok (.bipush 63, 2) := by decide +kernel
theorem d_Mo_goOn_189 : decode c_Mo_goOn 189 = .ok (.if_icmp .ne 15, 3) := by decide +kernel
theorem d_Mo_goOn_192 : decode c_Mo_goOn 192 = .ok (.aload_n 0, 1) := by decide +kernel
theorem d_Mo_goOn_193 : decode c_Mo_goOn 193 = .ok (.iload_n 1, 1) := by decide +kernel
theorem d_Mo_goOn_194 : decode c_Mo_goOn 194 = .ok (.iload_n 2, 1) := by decide +kernel
theorem d_Mo_goOn_195 : decode c_Mo_goOn 195 = .ok (.iload_n 3, 1) := by decide +kernel
theorem d_Mo_goOn_196 : decode c_Mo_goOn 196 = .ok (.iload 5, 2) := by decide +kernel
theorem d_Mo_goOn_198 : decode c_Mo_goOn 198 = .ok (.invokevirtual 197, 3) := by decide +kernel
theorem d_Mo_goOn_201 : decode c_Mo_goOn 201 = .ok (.goto 147, 3) := by decide +kernel
theorem d_Mo_goOn_204 : decode c_Mo_goOn 204 = .ok (.iload 4, 2) := by decide +kernel
theorem d_Mo_goOn_206 : decode c_Mo_goOn 206 = .ok (.bipush 36, 2) := by decide +kernel
theorem d_Mo_goOn_208 : decode c_Mo_goOn 208 = .ok (.if_icmp .ne 15, 3) := by decide +kernel
theorem d_Mo_goOn_211 : decode c_Mo_goOn 211 = .ok (.aload_n 0, 1) := by decide +kernel
theorem d_Mo_goOn_212 : decode c_Mo_goOn 212 = .ok (.iload_n 1, 1) := by decide +kernel
theorem d_Mo_goOn_213 : decode c_Mo_goOn 213 = .ok (.iload_n 2, 1) := by decide +kernel
theorem d_Mo_goOn_214 : decode c_Mo_goOn 214 = .ok (.iload_n 3, 1) := by decide +kernel
theorem d_Mo_goOn_215 : decode c_Mo_goOn 215 = .ok (.iload 5, 2) := by decide +kernel
theorem d_Mo_goOn_217 : decode c_Mo_goOn 217 = .ok (.invokevirtual 201, 3) := by decide +kernel
theorem d_Mo_goOn_220 : decode c_Mo_goOn 220 = .ok (.goto 128, 3) := by decide +kernel
theorem d_Mo_goOn_223 : decode c_Mo_goOn 223 = .ok (.iload 4, 2) := by decide +kernel
theorem d_Mo_goOn_225 : decode c_Mo_goOn 225 = .ok (.bipush 33, 2) := by decide +kernel
theorem d_Mo_goOn_227 : decode c_Mo_goOn 227 = .ok (.if_icmp .ne 14, 3) := by decide +kernel
theorem d_Mo_goOn_230 : decode c_Mo_goOn 230 = .ok (.aload_n 0, 1) := by decide +kernel
theorem d_Mo_goOn_231 : decode c_Mo_goOn 231 = .ok (.iload_n 2, 1) := by decide +kernel
theorem d_Mo_goOn_232 : decode c_Mo_goOn 232 = .ok (.iload_n 3, 1) := by decide +kernel
theorem d_Mo_goOn_233 : decode c_Mo_goOn 233 = .ok (.iload 5, 2) := by decide +kernel
theorem d_Mo_goOn_235 : decode c_Mo_goOn 235 = .ok (.invokevirtual 204, 3) := by decide +kernel
theorem d_Mo_goOn_238 : decode c_Mo_goOn 238 = .ok (.goto 110, 3) := by decide +kernel
theorem d_Mo_goOn_241 : decode c_Mo_goOn 241 = .ok (.iload 4, 2) := by decide +kernel
theorem d_Mo_goOn_243 : decode c_Mo_goOn 243 = .ok (.bipush 35, 2) := by decide +kernel
theorem d_Mo_goOn_245 : decode c_Mo_goOn 245 = .ok (.if_icmp .ne 15, 3) := by decide +kernel
theorem d_Mo_goOn_248 : decode c_Mo_goOn 248 = .ok (.aload_n 0, 1) := by decide +kernel
theorem d_Mo_goOn_249 : decode c_Mo_goOn 249 = .ok (.iload_n 1, 1) := by decide +kernel
theorem d_Mo_goOn_250 : decode c_Mo_goOn 250 = .ok (.iload_n 2, 1) := by decide +kernel
theorem d_Mo_goOn_251 : decode c_Mo_goOn 251 = .ok (.iload_n 3, 1) := by decide +kernel
theorem d_Mo_goOn_252 : decode c_Mo_goOn 252 = .ok (.iload 5, 2) := by decide +kernel
theorem d_Mo_goOn_254 : decode c_Mo_goOn 254 = .ok (.invokevirtual 208, 3) := by decide +kernel
theorem d_Mo_goOn_257 : decode c_Mo_goOn 257 = .ok (.goto 91, 3) := by decide +kernel
theorem d_Mo_goOn_260 : decode c_Mo_goOn 260 = .ok (.iload 4, 2) := by decide +kernel
theorem d_Mo_goOn_262 : decode c_Mo_goOn 262 = .ok (.bipush 38, 2) := by decide +kernel
theorem d_Mo_goOn_264 : decode c_Mo_goOn 264 = .ok (.if_icmp .ne 27, 3) := by decide +kernel
theorem d_Mo_goOn_267 : decode c_Mo_goOn 267 = .ok (.iload 5, 2) := by decide +kernel
theorem d_Mo_goOn_269 : decode c_Mo_goOn 269 = .ok (.iconst 2, 1) := by decide +kernel
theorem d_Mo_goOn_270 : decode c_Mo_goOn 270 = .ok (.if_icmp .eq 10, 3) := by decide +kernel
theorem d_Mo_goOn_273 : decode c_Mo_goOn 273 = .ok (.aload_n 0, 1) := by decide +kernel
theorem d_Mo_goOn_274 : decode c_Mo_goOn 274 = .ok (.getfield 185, 3) := by decide +kernel
theorem d_Mo_goOn_277 : decode c_Mo_goOn 277 = .ok (.ifCond .ne 14, 3) := by decide +kernel
theorem d_Mo_goOn_280 : decode c_Mo_goOn 280 = .ok (.aload_n 0, 1) := by decide +kernel
theorem d_Mo_goOn_281 : decode c_Mo_goOn 281 = .ok (.aload_n 0, 1) := by decide +kernel
theorem d_Mo_goOn_282 : decode c_Mo_goOn 282 = .ok (.getfield 185, 3) := by decide +kernel
theorem d_Mo_goOn_285 : decode c_Mo_goOn 285 = .ok (.invokevirtual 188, 3) := by decide +kernel
theorem d_Mo_goOn_288 : decode c_Mo_goOn 288 = .ok (.goto 60, 3) := by decide +kernel
theorem d_Mo_goOn_291 : decode c_Mo_goOn 291 = .ok (.iload 5, 2) := by decide +kernel
theorem d_Mo_goOn_293 : decode c_Mo_goOn 293 = .ok (.iconst 1, 1) := by decide +kernel
theorem d_Mo_goOn_294 : decode c_Mo_goOn 294 = .ok (.if_icmp .ne 34, 3) := by decide +kernel
theorem d_Mo_goOn_297 : decode c_Mo_goOn 297 = .ok (.aload_n 0, 1) := by decide +kernel
theorem d_Mo_goOn_298 : decode c_Mo_goOn 298 = .ok (.getfield 69, 3) := by decide +kernel
theorem d_Mo_goOn_301 : decode c_Mo_goOn 301 = .ok (.iload_n 1, 1) := by decide +kernel
theorem d_Mo_goOn_302 : decode c_Mo_goOn 302 = .ok (.aload_n 0, 1) := by decide +kernel
theorem d_Mo_goOn_303 : decode c_Mo_goOn 303 = .ok (.getfield 185, 3) := by decide +kernel
theorem d_Mo_goOn_306 : decode c_Mo_goOn 306 = .ok (.iastore, 1) := by decide +kernel
theorem d_Mo_goOn_307 : decode c_Mo_goOn 307 = .ok (.aload_n 0, 1) := by decide +kernel
theorem d_Mo_goOn_308 : decode c_Mo_goOn 308 = .ok (.iload_n 2, 1) := by decide +kernel
theorem d_Mo_goOn_309 : decode c_Mo_goOn 309 = .ok (.aload_n 0, 1) := by decide +kernel
theorem d_Mo_goOn_310 : decode c_Mo_goOn 310 = .ok (.getfield 23, 3) := by decide +kernel
theorem d_Mo_goOn_313 : decode c_Mo_goOn 313 = .ok (.bipush 24, 2) := by decide +kernel
theorem d_Mo_goOn_315 : decode c_Mo_goOn 315 = .ok (.iload_n 2, 1) := by decide +kernel
theorem d_Mo_goOn_316 : decode c_Mo_goOn 316 = .ok (.imul, 1) := by decide +kernel
theorem d_Mo_goOn_317 : decode c_Mo_goOn 317 = .ok (.iload_n 3, 1) := by decide +kernel
theorem d_Mo_goOn_318 : decode c_Mo_goOn 318 = .ok (.iadd, 1) := by decide +kernel
theorem d_Mo_goOn_319 : decode c_Mo_goOn 319 = .ok (.iconst 1, 1) := by decide +kernel
theorem d_Mo_goOn_320 : decode c_Mo_goOn 320 = .ok (.iadd, 1) := by decide +kernel
theorem d_Mo_goOn_321 : decode c_Mo_goOn 321 = .ok (.iaload, 1) := by decide +kernel
theorem d_Mo_goOn_322 : decode c_Mo_goOn 322 = .ok (.invokevirtual 194, 3) := by decide +kernel
theorem d_Mo_goOn_325 : decode c_Mo_goOn 325 = .ok (.goto 23, 3) := by decide +kernel
theorem d_Mo_goOn_328 : decode c_Mo_goOn 328 = .ok (.aload_n 0, 1) := by decide +kernel
theorem d_Mo_goOn_329 : decode c_Mo_goOn 329 = .ok (.aload_n 0, 1) := by decide +kernel
theorem d_Mo_goOn_330 : decode c_Mo_goOn 330 = .ok (.iload 4, 2) := by decide +kernel
theorem d_Mo_goOn_332 : decode c_Mo_goOn 332 = .ok (.aload_n 0, 1) := by decide +kernel
theorem d_Mo_goOn_333 : decode c_Mo_goOn 333 = .ok (.getfield 69, 3) := by decide +kernel
theorem d_Mo_goOn_336 : decode c_Mo_goOn 336 = .ok (.iload_n 1, 1) := by decide +kernel
theorem d_Mo_goOn_337 : decode c_Mo_goOn 337 = .ok (.iaload, 1) := by decide +kernel
theorem d_Mo_goOn_338 : decode c_Mo_goOn 338 = .ok (.aload_n 0, 1) := by decide +kernel
theorem d_Mo_goOn_339 : decode c_Mo_goOn 339 = .ok (.getfield 185, 3) := by decide +kernel
theorem d_Mo_goOn_342 : decode c_Mo_goOn 342 = .ok (.invokevirtual 211, 3) := by decide +kernel
theorem d_Mo_goOn_345 : decode c_Mo_goOn 345 = .ok (.invokevirtual 188, 3) := by decide +kernel
theorem d_Mo_goOn_348 : decode c_Mo_goOn 348 = .ok (.return_, 1) := by decide +kernel
theorem d_Mo_leave_0 : decode c_Mo_leave 0 = .ok (.aload_n 0, 1) := by decide +kernel
theorem d_Mo_leave_1 : decode c_Mo_leave 1 = .ok (.iload_n 1, 1) := by decide +kernel
theorem d_Mo_leave_2 : decode c_Mo_leave 2 = .ok (.putfield 185, 3) := by decide +kernel
theorem d_Mo_leave_5 : decode c_Mo_leave 5 = .ok (.aload_n 0, 1) := by decide +kernel
theorem d_Mo_leave_6 : decode c_Mo_leave 6 = .ok (.dup, 1) := by decide +kernel
theorem d_Mo_leave_7 : decode c_Mo_leave 7 = .ok (.getfield 182, 3) := by decide +kernel
theorem d_Mo_leave_10 : decode c_Mo_leave 10 = .ok (.iconst 1, 1) := by decide +kernel
theorem d_Mo_leave_11 : decode c_Mo_leave 11 = .ok (.isub, 1) := by decide +kernel
theorem d_Mo_leave_12 : decode c_Mo_leave 12 = .ok (.putfield 182, 3) := by decide +kernel
theorem d_Mo_leave_15 : decode c_Mo_leave 15 = .ok (.return_, 1) := by decide +kernel
theorem d_Mo_branch_0 : decode c_Mo_branch 0 = .ok (.iload 4, 2) := by decide +kernel
theorem d_Mo_branch_2 : decode c_Mo_branch 2 = .ok (.iconst 2, 1) := by decide +kernel
theorem d_Mo_branch_3 : decode c_Mo_branch 3 = .ok (.if_icmp .ne 12, 3) := by decide +kernel
theorem d_Mo_branch_6 : decode c_Mo_branch 6 = .ok (.aload_n 0, 1) := by decide +kernel
theorem d_Mo_branch_7 : decode c_Mo_branch 7 = .ok (.aload_n 0, 1) := by decide +kernel
theorem d_Mo_branch_8 : decode c_Mo_branch 8 = .ok (.getfield 185, 3) := by decide +kernel
theorem d_Mo_branch_11 : decode c_Mo_branch 11 = .ok (.invokevirtual 188, 3) := by decide +kernel
theorem d_Mo_branch_14 : decode c_Mo_branch 14 = .ok (.return_, 1) := by decide +kernel
theorem d_Mo_branch_15 : decode c_Mo_branch 15 = .ok (.aload_n 0, 1) := by decide +kernel
theorem d_Mo_branch_16 : decode c_Mo_branch 16 = .ok (.getfield 23, 3) := by decide +kernel
theorem d_Mo_branch_19 : decode c_Mo_branch 19 = .ok (.bipush 24, 2) := by decide +kernel
theorem d_Mo_branch_21 : decode c_Mo_branch 21 = .ok (.iload_n 2, 1) := by decide +kernel
theorem d_Mo_branch_22 : decode c_Mo_branch 22 = .ok (.imul, 1) := by decide +kernel
theorem d_Mo_branch_23 : decode c_Mo_branch 23 = .ok (.iload_n 3, 1) := by decide +kernel
theorem d_Mo_branch_24 : decode c_Mo_branch 24 = .ok (.iadd, 1) := by decide +kernel
theorem d_Mo_branch_25 : decode c_Mo_branch 25 = .ok (.iconst 1, 1) := by decide +kernel
theorem d_Mo_branch_26 : decode c_Mo_branch 26 = .ok (.iadd, 1) := by decide +kernel
theorem d_Mo_branch_27 : decode c_Mo_branch 27 = .ok (.iaload, 1) := by decide +kernel
theorem d_Mo_branch_28 : decode c_Mo_branch 28 = .ok (.istore 5, 2) := by decide +kernel
theorem d_Mo_branch_30 : decode c_Mo_branch 30 = .ok (.aload_n 0, 1) := by decide +kernel
theorem d_Mo_branch_31 : decode c_Mo_branch 31 = .ok (.getfield 23, 3) := by decide +kernel
theorem d_Mo_branch_34 : decode c_Mo_branch 34 = .ok (.bipush 24, 2) := by decide +kernel
theorem d_Mo_branch_36 : decode c_Mo_branch 36 = .ok (.iload_n 2, 1) := by decide +kernel
theorem d_Mo_branch_37 : decode c_Mo_branch 37 = .ok (.imul, 1) := by decide +kernel
theorem d_Mo_branch_38 : decode c_Mo_branch 38 = .ok (.iload 5, 2) := by decide +kernel
theorem d_Mo_branch_40 : decode c_Mo_branch 40 = .ok (.iadd, 1) := by decide +kernel
theorem d_Mo_branch_41 : decode c_Mo_branch 41 = .ok (.iaload, 1) := by decide +kernel
theorem d_Mo_branch_42 : decode c_Mo_branch 42 = .ok (.istore 6, 2) := by decide +kernel
theorem d_Mo_branch_44 : decode c_Mo_branch 44 = .ok (.aload_n 0, 1) := by decide +kernel
theorem d_Mo_branch_45 : decode c_Mo_branch 45 = .ok (.iload_n 2, 1) := by decide +kernel
theorem d_Mo_branch_46 : decode c_Mo_branch 46 = .ok (.aload_n 0, 1) := by decide +kernel
theorem d_Mo_branch_47 : decode c_Mo_branch 47 = .ok (.getfield 185, 3) := by decide +kernel
theorem d_Mo_branch_50 : decode c_Mo_branch 50 = .ok (.ifCond .eq 8, 3) := by decide +kernel
theorem d_Mo_branch_53 : decode c_Mo_branch 53 = .ok (.iload 5, 2) := by decide +kernel
theorem d_Mo_branch_55 : decode c_Mo_branch 55 = .ok (.goto 5, 3) := by decide +kernel
theorem d_Mo_branch_58 : decode c_Mo_branch 58 = .ok (.iload 6, 2) := by decide +kernel
theorem d_Mo_branch_60 : decode c_Mo_branch 60 = .ok (.invokevirtual 194, 3) := by decide +kernel
theorem d_Mo_branch_63 : decode c_Mo_branch 63 = .ok (.return_, 1) := by decide +kernel
theorem d_Mo_let_0 : decode c_Mo_let 0 = .ok (.bipush 6, 2) := by decide +kernel
theorem d_Mo_let_2 : decode c_Mo_let 2 = .ok (.aload_n 0, 1) := by decide +kernel
theorem d_Mo_let_3 : decode c_Mo_let 3 = .ok (.getfield 191, 3) := by decide +kernel
theorem d_Mo_let_6 : decode c_Mo_let 6 = .ok (.imul, 1) := by decide +kernel
theorem d_Mo_let_7 : decode c_Mo_let 7 = .ok (.aload_n 0, 1) := by decide +kernel
theorem d_Mo_let_8 : decode c_Mo_let 8 = .ok (.iload_n 2, 1) := by decide +kernel
theorem d_Mo_let_9 : decode c_Mo_let 9 = .ok (.iload_n 3, 1) := by decide +kernel
theorem d_Mo_let_10 : decode c_Mo_let 10 = .ok (.iconst 1, 1) := by decide +kernel
theorem d_Mo_let_11 : decode c_Mo_let 11 = .ok (.iadd, 1) := by decide +kernel
theorem d_Mo_let_12 : decode c_Mo_let 12 = .ok (.invokevirtual 88, 3) := by decide +kernel
theorem d_Mo_let_15 : decode c_Mo_let 15 = .ok (.iadd, 1) := by decide +kernel
theorem d_Mo_let_16 : decode c_Mo_let 16 = .ok (.bipush 107, 2) := by decide +kernel
theorem d_Mo_let_18 : decode c_Mo_let 18 = .ok (.isub, 1) := by decide +kernel
theorem d_Mo_let_19 : decode c_Mo_let 19 = .ok (.istore 5, 2) := by decide +kernel
theorem d_Mo_let_21 : decode c_Mo_let 21 = .ok (.iload 4, 2) := by decide +kernel
theorem d_Mo_let_23 : decode c_Mo_let 23 = .ok (.iconst 2, 1) := by decide +kernel
theorem d_Mo_let_24 : decode c_Mo_let 24 = .ok (.if_icmp .ne 25, 3) := by decide +kernel
theorem d_Mo_let_27 : decode c_Mo_let 27 = .ok (.aload_n 0, 1) := by decide +kernel
theorem d_Mo_let_28 : decode c_Mo_let 28 = .ok (.getfield 72, 3) := by decide +kernel
theorem d_Mo_let_31 : decode c_Mo_let 31 = .ok (.iload 5, 2) := by decide +kernel
theorem d_Mo_let_33 : decode c_Mo_let 33 = .ok (.aload_n 0, 1) := by decide +kernel
theorem d_Mo_let_34 : decode c_Mo_let 34 = .ok (.getfield 69, 3) := by decide +kernel
theorem d_Mo_let_37 : decode c_Mo_let 37 = .ok (.iload_n 1, 1) := by decide +kernel
theorem d_Mo_let_38 : decode c_Mo_let 38 = .ok (.iaload, 1) := by decide +kernel
theorem d_Mo_let_39 : decode c_Mo_let 39 = .ok (.iastore, 1) := by decide +kernel
theorem d_Mo_let_40 : decode c_Mo_let 40 = .ok (.aload_n 0, 1) := by decide +kernel
theorem d_Mo_let_41 : decode c_Mo_let 41 = .ok (.aload_n 0, 1) := by decide +kernel
theorem d_Mo_let_42 : decode c_Mo_let 42 = .ok (.getfield 185, 3) := by decide +kernel
theorem d_Mo_let_45 : decode c_Mo_let 45 = .ok (.invokevirtual 188, 3) := by decide +kernel
theorem d_Mo_let_48 : decode c_Mo_let 48 = .ok (.return_, 1) := by decide +kernel
theorem d_Mo_let_49 : decode c_Mo_let 49 = .ok (.aload_n 0, 1) := by decide +kernel
theorem d_Mo_let_50 : decode c_Mo_let 50 = .ok (.getfield 69, 3) := by decide +kernel
theorem d_Mo_let_53 : decode c_Mo_let 53 = .ok (.iload_n 1, 1) := by decide +kernel
theorem d_Mo_let_54 : decode c_Mo_let 54 = .ok (.aload_n 0, 1) := by decide +kernel
theorem d_Mo_let_55 : decode c_Mo_let 55 = .ok (.getfield 72, 3) := by decide +kernel
theorem d_Mo_let_58 : decode c_Mo_let 58 = .ok (.iload 5, 2) := by decide +kernel
theorem d_Mo_let_60 : decode c_Mo_let 60 = .ok (.iaload, 1) := by decide +kernel
theorem d_Mo_let_61 : decode c_Mo_let 61 = .ok (.iastore, 1) := by decide +kernel
theorem d_Mo_let_62 : decode c_Mo_let 62 = .ok (.aload_n 0, 1) := by decide +kernel
theorem d_Mo_let_63 : decode c_Mo_let 63 = .ok (.getfield 72, 3) := by decide +kernel
theorem d_Mo_let_66 : decode c_Mo_let 66 = .ok (.iload 5, 2) := by decide +kernel
theorem d_Mo_let_68 : decode c_Mo_let 68 = .ok (.aload_n 0, 1) := by decide +kernel
theorem d_Mo_let_69 : decode c_Mo_let 69 = .ok (.getfield 185, 3) := by decide +kernel
theorem d_Mo_let_72 : decode c_Mo_let 72 = .ok (.iastore, 1) := by decide +kernel
theorem d_Mo_let_73 : decode c_Mo_let 73 = .ok (.aload_n 0, 1) := by decide +kernel
theorem d_Mo_let_74 : decode c_Mo_let 74 = .ok (.iload_n 2, 1) := by decide +kernel
theorem d_Mo_let_75 : decode c_Mo_let 75 = .ok (.aload_n 0, 1) := by decide +kernel
theorem d_Mo_let_76 : decode c_Mo_let 76 = .ok (.getfield 23, 3) := by decide +kernel
theorem d_Mo_let_79 : decode c_Mo_let 79 = .ok (.bipush 24, 2) := by decide +kernel
theorem d_Mo_let_81 : decode c_Mo_let 81 = .ok (.iload_n 2, 1) := by decide +kernel
theorem d_Mo_let_82 : decode c_Mo_let 82 = .ok (.imul, 1) := by decide +kernel
theorem d_Mo_let_83 : decode c_Mo_let 83 = .ok (.iload_n 3, 1) := by decide +kernel
theorem d_Mo_let_84 : decode c_Mo_let 84 = .ok (.iadd, 1) := by decide +kernel
theorem d_Mo_let_85 : decode c_Mo_let 85 = .ok (.iconst 2, 1) := by decide +kernel
theorem d_Mo_let_86 : decode c_Mo_let 86 = .ok (.iadd, 1) := by decide +kernel
theorem d_Mo_let_87 : decode c_Mo_let 87 = .ok (.iaload, 1) := by decide +kernel
theorem d_Mo_let_88 : decode c_Mo_let 88 = .ok (.invokevirtual 194, 3) := by decide +kernel
theorem d_Mo_let_91 : decode c_Mo_let 91 = .ok (.return_, 1) := by decide +kernel
theorem d_Mo_call_0 : decode c_Mo_call 0 = .ok (.iload_n 3, 1) := by decide +kernel
theorem d_Mo_call_1 : decode c_Mo_call 1 = .ok (.iconst 2, 1) := by decide +kernel
theorem d_Mo_call_2 : decode c_Mo_call 2 = .ok (.if_icmp .ne 22, 3) := by decide +kernel
theorem d_Mo_call_5 : decode c_Mo_call 5 = .ok (.aload_n 0, 1) := by decide +kernel
theorem d_Mo_call_6 : decode c_Mo_call 6 = .ok (.dup, 1) := by decide +kernel
theorem d_Mo_call_7 : decode c_Mo_call 7 = .ok (.getfield 191, 3) := by decide +kernel
theorem d_Mo_call_10 : decode c_Mo_call 10 = .ok (.iconst 1, 1) := by decide +kernel
theorem d_Mo_call_11 : decode c_Mo_call 11 = .ok (.isub, 1) := by decide +kernel
theorem d_Mo_call_12 : decode c_Mo_call 12 = .ok (.putfield 191, 3) := by decide +kernel
theorem d_Mo_call_15 : decode c_Mo_call 15 = .ok (.aload_n 0, 1) := by decide +kernel
theorem d_Mo_call_16 : decode c_Mo_call 16 = .ok (.aload_n 0, 1) := by decide +kernel
theorem d_Mo_call_17 : decode c_Mo_call 17 = .ok (.getfield 185, 3) := by decide +kernel
theorem d_Mo_call_20 : decode c_Mo_call 20 = .ok (.invokevirtual 188, 3) := by decide +kernel
theorem d_Mo_call_23 : decode c_Mo_call 23 = .ok (.return_, 1) := by decide +kernel
theorem d_Mo_call_24 : decode c_Mo_call 24 = .ok (.aload_n 0, 1) := by decide +kernel
theorem d_Mo_call_25 : decode c_Mo_call 25 = .ok (.getfield 191, 3) := by decide +kernel
theorem d_Mo_call_28 : decode c_Mo_call 28 = .ok (.iconst 5, 1) := by decide +kernel
theorem d_Mo_call_29 : decode c_Mo_call 29 = .ok (.if_icmp .ne 10, 3) := by decide +kernel
theorem d_Mo_call_32 : decode c_Mo_call 32 = .ok (.aload_n 0, 1) := by decide +kernel
theorem d_Mo_call_33 : decode c_Mo_call 33 = .ok (.bipush 9, 2) := by decide +kernel
theorem d_Mo_call_35 : decode c_Mo_call 35 = .ok (.putfield 176, 3) := by decide +kernel
theorem d_Mo_call_38 : decode c_Mo_call 38 = .ok (.return_, 1) := by decide +kernel
theorem d_Mo_call_39 : decode c_Mo_call 39 = .ok (.aload_n 0, 1) := by decide +kernel
theorem d_Mo_call_40 : decode c_Mo_call 40 = .ok (.aload_n 0, 1) := by decide +kernel
theorem d_Mo_call_41 : decode c_Mo_call 41 = .ok (.iload_n 1, 1) := by decide +kernel
theorem d_Mo_call_42 : decode c_Mo_call 42 = .ok (.iload_n 2, 1) := by decide +kernel
theorem d_Mo_call_43 : decode c_Mo_call 43 = .ok (.iconst 1, 1) := by decide +kernel
theorem d_Mo_call_44 : decode c_Mo_call 44 = .ok (.iadd, 1) := by decide +kernel
theorem d_Mo_call_45 : decode c_Mo_call 45 = .ok (.invokevirtual 88, 3) := by decide +kernel
theorem d_Mo_call_48 : decode c_Mo_call 48 = .ok (.bipush 97, 2) := by decide +kernel
theorem d_Mo_call_50 : decode c_Mo_call 50 = .ok (.isub, 1) := by decide +kernel
theorem d_Mo_call_51 : decode c_Mo_call 51 = .ok (.invokevirtual 131, 3) := by decide +kernel
theorem d_Mo_call_54 : decode c_Mo_call 54 = .ok (.istore 4, 2) := by decide +kernel
theorem d_Mo_call_56 : decode c_Mo_call 56 = .ok (.aload_n 0, 1) := by decide +kernel
theorem d_Mo_call_57 : decode c_Mo_call 57 = .ok (.dup, 1) := by decide +kernel
theorem d_Mo_call_58 : decode c_Mo_call 58 = .ok (.getfield 191, 3) := by decide +kernel
theorem d_Mo_call_61 : decode c_Mo_call 61 = .ok (.iconst 1, 1) := by decide +kernel
theorem d_Mo_call_62 : decode c_Mo_call 62 = .ok (.iadd, 1) := by decide +kernel
theorem d_Mo_call_63 : decode c_Mo_call 63 = .ok (.putfield 191, 3) := by decide +kernel
theorem d_Mo_call_66 : decode c_Mo_call 66 = .ok (.aload_n 0, 1) := by decide +kernel
theorem d_Mo_call_67 : decode c_Mo_call 67 = .ok (.getfield 72, 3) := by decide +kernel
theorem d_Mo_call_70 : decode c_Mo_call 70 = .ok (.bipush 6, 2) := by decide +kernel
theorem d_Mo_call_72 : decode c_Mo_call 72 = .ok (.aload_n 0, 1) := by decide +kernel
theorem d_Mo_call_73 : decode c_Mo_call 73 = .ok (.getfield 191, 3) := by decide +kernel
theorem d_Mo_call_76 : decode c_Mo_call 76 = .ok (.imul, 1) := by decide +kernel
theorem d_Mo_call_77 : decode c_Mo_call 77 = .ok (.aload_n 0, 1) := by decide +kernel
theorem d_Mo_call_78 : decode c_Mo_call 78 = .ok (.iload 4, 2) := by decide +kernel
theorem d_Mo_call_80 : decode c_Mo_call 80 = .ok (.iconst 1, 1) := by decide +kernel
theorem d_Mo_call_81 : decode c_Mo_call 81 = .ok (.invokevirtual 88, 3) := by decide +kernel
theorem d_Mo_call_84 : decode c_Mo_call 84 = .ok (.iadd, 1) := by decide +kernel
theorem d_Mo_call_85 : decode c_Mo_call 85 = .ok (.bipush 107, 2) := by decide +kernel
theorem d_Mo_call_87 : decode c_Mo_call 87 = .ok (.isub, 1) := by decide +kernel
theorem d_Mo_call_88 : decode c_Mo_call 88 = .ok (.aload_n 0, 1) := by decide +kernel
theorem d_Mo_call_89 : decode c_Mo_call 89 = .ok (.getfield 185, 3) := by decide +kernel
theorem d_Mo_call_92 : decode c_Mo_call 92 = .ok (.iastore, 1) := by decide +kernel
theorem d_Mo_call_93 : decode c_Mo_call 93 = .ok (.aload_n 0, 1) := by decide +kernel
theorem d_Mo_call_94 : decode c_Mo_call 94 = .ok (.iload 4, 2) := by decide +kernel
theorem d_Mo_call_96 : decode c_Mo_call 96 = .ok (.iconst 2, 1) := by decide +kernel
theorem d_Mo_call_97 : decode c_Mo_call 97 = .ok (.invokevirtual 194, 3) := by decide +kernel
theorem d_Mo_call_100 : decode c_Mo_call 100 = .ok (.return_, 1) := by decide +kernel
theorem d_Mo_match_0 : decode c_Mo_match 0 = .ok (.iload 4, 2) := by decide +kernel
theorem d_Mo_match_2 : decode c_Mo_match 2 = .ok (.iconst 2, 1) := by decide +kernel
theorem d_Mo_match_3 : decode c_Mo_match 3 = .ok (.if_icmp .ne 12, 3) := by decide +kernel
theorem d_Mo_match_6 : decode c_Mo_match 6 = .ok (.aload_n 0, 1) := by decide +kernel
theorem d_Mo_match_7 : decode c_Mo_match 7 = .ok (.aload_n 0, 1) := by decide +kernel
theorem d_Mo_match_8 : decode c_Mo_match 8 = .ok (.getfield 185, 3) := by decide +kernel
theorem d_Mo_match_11 : decode c_Mo_match 11 = .ok (.invokevirtual 188, 3) := by decide +kernel
theorem d_Mo_match_14 : decode c_Mo_match 14 = .ok (.return_, 1) := by decide +kernel
theorem d_Mo_match_15 : decode c_Mo_match 15 = .ok (.aload_n 0, 1) := by decide +kernel
theorem d_Mo_match_16 : decode c_Mo_match 16 = .ok (.getfield 23, 3) := by decide +kernel
theorem d_Mo_match_19 : decode c_Mo_match 19 = .ok (.bipush 24, 2) := by decide +kernel
theorem d_Mo_match_21 : decode c_Mo_match 21 = .ok (.iload_n 2, 1) := by decide +kernel
theorem d_Mo_match_22 : decode c_Mo_match 22 = .ok (.imul, 1) := by decide +kernel
theorem d_Mo_match_23 : decode c_Mo_match 23 = .ok (.iload_n 3, 1) := by decide +kernel
theorem d_Mo_match_24 : decode c_Mo_match 24 = .ok (.iadd, 1) := by decide +kernel
theorem d_Mo_match_25 : decode c_Mo_match 25 = .ok (.iconst 1, 1) := by decide +kernel
theorem d_Mo_match_26 : decode c_Mo_match 26 = .ok (.iadd, 1) := by decide +kernel
theorem d_Mo_match_27 : decode c_Mo_match 27 = .ok (.iaload, 1) := by decide +kernel
theorem d_Mo_match_28 : decode c_Mo_match 28 = .ok (.istore 5, 2) := by decide +kernel
theorem d_Mo_match_30 : decode c_Mo_match 30 = .ok (.aload_n 0, 1) := by decide +kernel
theorem d_Mo_match_31 : decode c_Mo_match 31 = .ok (.getfield 23, 3) := by decide +kernel
theorem d_Mo_match_34 : decode c_Mo_match 34 = .ok (.bipush 24, 2) := by decide +kernel
theorem d_Mo_match_36 : decode c_Mo_match 36 = .ok (.iload_n 2, 1) := by decide +kernel
theorem d_Mo_match_37 : decode c_Mo_match 37 = .ok (.imul, 1) := by decide +kernel
theorem d_Mo_match_38 : decode c_Mo_match 38 = .ok (.iload 5, 2) := by decide +kernel
theorem d_Mo_match_40 : decode c_Mo_match 40 = .ok (.iadd, 1) := by decide +kernel
theorem d_Mo_match_41 : decode c_Mo_match 41 = .ok (.iconst 1, 1) := by decide +kernel
theorem d_Mo_match_42 : decode c_Mo_match 42 = .ok (.iadd, 1) := by decide +kernel
theorem d_Mo_match_43 : decode c_Mo_match 43 = .ok (.iaload, 1) := by decide +kernel
theorem d_Mo_match_44 : decode c_Mo_match 44 = .ok (.istore 6, 2) := by decide +kernel
theorem d_Mo_match_46 : decode c_Mo_match 46 = .ok (.aload_n 0, 1) := by decide +kernel
theorem d_Mo_match_47 : decode c_Mo_match 47 = .ok (.getfield 185, 3) := by decide +kernel
theorem d_Mo_match_50 : decode c_Mo_match 50 = .ok (.aload_n 0, 1) := by decide +kernel
theorem d_Mo_match_51 : decode c_Mo_match 51 = .ok (.iload_n 2, 1) := by decide +kernel
theorem d_Mo_match_52 : decode c_Mo_match 52 = .ok (.iload 5, 2) := by decide +kernel
theorem d_Mo_match_54 : decode c_Mo_match 54 = .ok (.invokevirtual 88, 3) := by decide +kernel
theorem d_Mo_match_57 : decode c_Mo_match 57 = .ok (.bipush 48, 2) := by decide +kernel
theorem d_Mo_match_59 : decode c_Mo_match 59 = .ok (.isub, 1) := by decide +kernel
theorem d_Mo_match_60 : decode c_Mo_match 60 = .ok (.if_icmp .ne 15, 3) := by decide +kernel
theorem d_Mo_match_63 : decode c_Mo_match 63 = .ok (.aload_n 0, 1) := by decide +kernel
theorem d_Mo_match_64 : decode c_Mo_match 64 = .ok (.iload_n 2, 1) := by decide +kernel
theorem d_Mo_match_65 : decode c_Mo_match 65 = .ok (.iload 5, 2) := by decide +kernel
theorem d_Mo_match_67 : decode c_Mo_match 67 = .ok (.iconst 1, 1) := by decide +kernel
theorem d_Mo_match_68 : decode c_Mo_match 68 = .ok (.iadd, 1) := by decide +kernel
theorem d_Mo_match_69 : decode c_Mo_match 69 = .ok (.invokevirtual 194, 3) := by decide +kernel
theorem d_Mo_match_72 : decode c_Mo_match 72 = .ok (.goto 38, 3) := by decide +kernel
theorem d_Mo_match_75 : decode c_Mo_match 75 = .ok (.aload_n 0, 1) := by decide +kernel
theorem d_Mo_match_76 : decode c_Mo_match 76 = .ok (.getfield 185, 3) := by decide +kernel
theorem d_Mo_match_79 : decode c_Mo_match 79 = .ok (.aload_n 0, 1) := by decide +kernel
theorem d_Mo_match_80 : decode c_Mo_match 80 = .ok (.iload_n 2, 1) := by decide +kernel
theorem d_Mo_match_81 : decode c_Mo_match 81 = .ok (.iload 6, 2) := by decide +kernel
theorem d_Mo_match_83 : decode c_Mo_match 83 = .ok (.invokevirtual 88, 3) := by decide +kernel
theorem d_Mo_match_86 : decode c_Mo_match 86 = .ok (.bipush 48, 2) := by decide +kernel
theorem d_Mo_match_88 : decode c_Mo_match 88 = .ok (.isub, 1) := by decide +kernel
theorem d_Mo_match_89 : decode c_Mo_match 89 = .ok (.if_icmp .ne 15, 3) := by decide +kernel
theorem d_Mo_match_92 : decode c_Mo_match 92 = .ok (.aload_n 0, 1) := by decide +kernel
theorem d_Mo_match_93 : decode c_Mo_match 93 = .ok (.iload_n 2, 1) := by decide +kernel
theorem d_Mo_match_94 : decode c_Mo_match 94 = .ok (.iload 6, 2) := by decide +kernel
theorem d_Mo_match_96 : decode c_Mo_match 96 = .ok (.iconst 1, 1) := by decide +kernel
theorem d_Mo_match_97 : decode c_Mo_match 97 = .ok (.iadd, 1) := by decide +kernel
theorem d_Mo_match_98 : decode c_Mo_match 98 = .ok (.invokevirtual 194, 3) := by decide +kernel
theorem d_Mo_match_101 : decode c_Mo_match 101 = .ok (.goto 9, 3) := by decide +kernel
theorem d_Mo_match_104 : decode c_Mo_match 104 = .ok (.aload_n 0, 1) := by decide +kernel
theorem d_Mo_match_105 : decode c_Mo_match 105 = .ok (.bipush 8, 2) := by decide +kernel
theorem d_Mo_match_107 : decode c_Mo_match 107 = .ok (.putfield 176, 3) := by decide +kernel
theorem d_Mo_match_110 : decode c_Mo_match 110 = .ok (.return_, 1) := by decide +kernel
theorem d_Mo_joined_0 : decode c_Mo_joined 0 = .ok (.iload_n 1, 1) := by decide +kernel
theorem d_Mo_joined_1 : decode c_Mo_joined 1 = .ok (.bipush 47, 2) := by decide +kernel
theorem d_Mo_joined_3 : decode c_Mo_joined 3 = .ok (.if_icmp .ne 15, 3) := by decide +kernel
theorem d_Mo_joined_6 : decode c_Mo_joined 6 = .ok (.iload_n 3, 1) := by decide +kernel
theorem d_Mo_joined_7 : decode c_Mo_joined 7 = .ok (.ifCond .ne 11, 3) := by decide +kernel
theorem d_Mo_joined_10 : decode c_Mo_joined 10 = .ok (.aload_n 0, 1) := by decide +kernel
theorem d_Mo_joined_11 : decode c_Mo_joined 11 = .ok (.bipush 7, 2) := by decide +kernel
theorem d_Mo_joined_13 : decode c_Mo_joined 13 = .ok (.putfield 176, 3) := by decide +kernel
theorem d_Mo_joined_16 : decode c_Mo_joined 16 = .ok (.iconst 0, 1) := by decide +kernel
theorem d_Mo_joined_17 : decode c_Mo_joined 17 = .ok (.ireturn, 1) := by decide +kernel
theorem d_Mo_joined_18 : decode c_Mo_joined 18 = .ok (.iload_n 1, 1) := by decide +kernel
theorem d_Mo_joined_19 : decode c_Mo_joined 19 = .ok (.lookupswitch 76 #[(42, 57), (43, 49), (45, 53), (47, 61), (60, 65)], 49) := by decide +kernel
theorem d_Mo_joined_68 : decode c_Mo_joined 68 = .ok (.iload_n 2, 1) := by decide +kernel
theorem d_Mo_joined_69 : decode c_Mo_joined 69 = .ok (.iload_n 3, 1) := by decide +kernel
theorem d_Mo_joined_70 : decode c_Mo_joined 70 = .ok (.iadd, 1) := by decide +kernel
theorem d_Mo_joined_71 : decode c_Mo_joined 71 = .ok (.ireturn, 1) := by decide +kernel
theorem d_Mo_joined_72 : decode c_Mo_joined 72 = .ok (.iload_n 2, 1) := by decide +kernel
theorem d_Mo_joined_73 : decode c_Mo_joined 73 = .ok (.iload_n 3, 1) := by decide +kernel
theorem d_Mo_joined_74 : decode c_Mo_joined 74 = .ok (.isub, 1) := by decide +kernel
theorem d_Mo_joined_75 : decode c_Mo_joined 75 = .ok (.ireturn, 1) := by decide +kernel
theorem d_Mo_joined_76 : decode c_Mo_joined 76 = .ok (.iload_n 2, 1) := by decide +kernel
theorem d_Mo_joined_77 : decode c_Mo_joined 77 = .ok (.iload_n 3, 1) := by decide +kernel
theorem d_Mo_joined_78 : decode c_Mo_joined 78 = .ok (.imul, 1) := by decide +kernel
theorem d_Mo_joined_79 : decode c_Mo_joined 79 = .ok (.ireturn, 1) := by decide +kernel
theorem d_Mo_joined_80 : decode c_Mo_joined 80 = .ok (.iload_n 2, 1) := by decide +kernel
theorem d_Mo_joined_81 : decode c_Mo_joined 81 = .ok (.iload_n 3, 1) := by decide +kernel
theorem d_Mo_joined_82 : decode c_Mo_joined 82 = .ok (.idiv, 1) := by decide +kernel
theorem d_Mo_joined_83 : decode c_Mo_joined 83 = .ok (.ireturn, 1) := by decide +kernel
theorem d_Mo_joined_84 : decode c_Mo_joined 84 = .ok (.iload_n 2, 1) := by decide +kernel
theorem d_Mo_joined_85 : decode c_Mo_joined 85 = .ok (.iload_n 3, 1) := by decide +kernel
theorem d_Mo_joined_86 : decode c_Mo_joined 86 = .ok (.if_icmp .ge 7, 3) := by decide +kernel
theorem d_Mo_joined_89 : decode c_Mo_joined 89 = .ok (.iconst 1, 1) := by decide +kernel
theorem d_Mo_joined_90 : decode c_Mo_joined 90 = .ok (.goto 4, 3) := by decide +kernel
theorem d_Mo_joined_93 : decode c_Mo_joined 93 = .ok (.iconst 0, 1) := by decide +kernel
theorem d_Mo_joined_94 : decode c_Mo_joined 94 = .ok (.ireturn, 1) := by decide +kernel
theorem d_Mo_joined_95 : decode c_Mo_joined 95 = .ok (.iload_n 2, 1) := by decide +kernel
theorem d_Mo_joined_96 : decode c_Mo_joined 96 = .ok (.iload_n 3, 1) := by decide +kernel
theorem d_Mo_joined_97 : decode c_Mo_joined 97 = .ok (.if_icmp .ne 7, 3) := by decide +kernel
theorem d_Mo_joined_100 : decode c_Mo_joined 100 = .ok (.iconst 1, 1) := by decide +kernel
theorem d_Mo_joined_101 : decode c_Mo_joined 101 = .ok (.goto 4, 3) := by decide +kernel
theorem d_Mo_joined_104 : decode c_Mo_joined 104 = .ok (.iconst 0, 1) := by decide +kernel
theorem d_Mo_joined_105 : decode c_Mo_joined 105 = .ok (.ireturn, 1) := by decide +kernel
theorem d_Mo_cancel_0 : decode c_Mo_cancel 0 = .ok (.iload_n 1, 1) := by decide +kernel
theorem d_Mo_cancel_1 : decode c_Mo_cancel 1 = .ok (.invokestatic 138, 3) := by decide +kernel
theorem d_Mo_cancel_4 : decode c_Mo_cancel 4 = .ok (.ifCond .eq 28, 3) := by decide +kernel
theorem d_Mo_cancel_7 : decode c_Mo_cancel 7 = .ok (.aload_n 0, 1) := by decide +kernel
theorem d_Mo_cancel_8 : decode c_Mo_cancel 8 = .ok (.iload_n 1, 1) := by decide +kernel
theorem d_Mo_cancel_9 : decode c_Mo_cancel 9 = .ok (.invokevirtual 124, 3) := by decide +kernel
theorem d_Mo_cancel_12 : decode c_Mo_cancel 12 = .ok (.ifCond .eq 20, 3) := by decide +kernel
theorem d_Mo_cancel_15 : decode c_Mo_cancel 15 = .ok (.aload_n 0, 1) := by decide +kernel
theorem d_Mo_cancel_16 : decode c_Mo_cancel 16 = .ok (.getfield 36, 3) := by decide +kernel
theorem d_Mo_cancel_19 : decode c_Mo_cancel 19 = .ok (.iload_n 1, 1) := by decide +kernel
theorem d_Mo_cancel_20 : decode c_Mo_cancel 20 = .ok (.baload, 1) := by decide +kernel
theorem d_Mo_cancel_21 : decode c_Mo_cancel 21 = .ok (.ifCond .eq 11, 3) := by decide +kernel
theorem d_Mo_cancel_24 : decode c_Mo_cancel 24 = .ok (.aload_n 0, 1) := by decide +kernel
theorem d_Mo_cancel_25 : decode c_Mo_cancel 25 = .ok (.iload_n 1, 1) := by decide +kernel
theorem d_Mo_cancel_26 : decode c_Mo_cancel 26 = .ok (.invokevirtual 218, 3) := by decide +kernel
theorem d_Mo_cancel_29 : decode c_Mo_cancel 29 = .ok (.ifCond .eq 5, 3) := by decide +kernel
theorem d_Mo_cancel_32 : decode c_Mo_cancel 32 = .ok (.iconst 0, 1) := by decide +kernel
theorem d_Mo_cancel_33 : decode c_Mo_cancel 33 = .ok (.ireturn, 1) := by decide +kernel
theorem d_Mo_cancel_34 : decode c_Mo_cancel 34 = .ok (.aload_n 0, 1) := by decide +kernel
theorem d_Mo_cancel_35 : decode c_Mo_cancel 35 = .ok (.getfield 36, 3) := by decide +kernel
theorem d_Mo_cancel_38 : decode c_Mo_cancel 38 = .ok (.iload_n 1, 1) := by decide +kernel
theorem d_Mo_cancel_39 : decode c_Mo_cancel 39 = .ok (.iconst 0, 1) := by decide +kernel
theorem d_Mo_cancel_40 : decode c_Mo_cancel 40 = .ok (.bastore, 1) := by decide +kernel
theorem d_Mo_cancel_41 : decode c_Mo_cancel 41 = .ok (.aload_n 0, 1) := by decide +kernel
theorem d_Mo_cancel_42 : decode c_Mo_cancel 42 = .ok (.getfield 39, 3) := by decide +kernel
theorem d_Mo_cancel_45 : decode c_Mo_cancel 45 = .ok (.iload_n 1, 1) := by decide +kernel
theorem d_Mo_cancel_46 : decode c_Mo_cancel 46 = .ok (.bipush 11, 2) := by decide +kernel
theorem d_Mo_cancel_48 : decode c_Mo_cancel 48 = .ok (.iastore, 1) := by decide +kernel
theorem d_Mo_cancel_49 : decode c_Mo_cancel 49 = .ok (.iconst 1, 1) := by decide +kernel
theorem d_Mo_cancel_50 : decode c_Mo_cancel 50 = .ok (.ireturn, 1) := by decide +kernel
theorem d_Mo_status_0 : decode c_Mo_status 0 = .ok (.iload_n 1, 1) := by decide +kernel
theorem d_Mo_status_1 : decode c_Mo_status 1 = .ok (.invokestatic 138, 3) := by decide +kernel
theorem d_Mo_status_4 : decode c_Mo_status 4 = .ok (.ifCond .eq 11, 3) := by decide +kernel
theorem d_Mo_status_7 : decode c_Mo_status 7 = .ok (.aload_n 0, 1) := by decide +kernel
theorem d_Mo_status_8 : decode c_Mo_status 8 = .ok (.iload_n 1, 1) := by decide +kernel
theorem d_Mo_status_9 : decode c_Mo_status 9 = .ok (.invokevirtual 124, 3) := by decide +kernel
theorem d_Mo_status_12 : decode c_Mo_status 12 = .ok (.ifCond .ne 5, 3) := by decide +kernel
theorem d_Mo_status_15 : decode c_Mo_status 15 = .ok (.iconst 0, 1) := by decide +kernel
theorem d_Mo_status_16 : decode c_Mo_status 16 = .ok (.ireturn, 1) := by decide +kernel
theorem d_Mo_status_17 : decode c_Mo_status 17 = .ok (.aload_n 0, 1) := by decide +kernel
theorem d_Mo_status_18 : decode c_Mo_status 18 = .ok (.iload_n 1, 1) := by decide +kernel
theorem d_Mo_status_19 : decode c_Mo_status 19 = .ok (.invokevirtual 218, 3) := by decide +kernel
theorem d_Mo_status_22 : decode c_Mo_status 22 = .ok (.istore_n 2, 1) := by decide +kernel
theorem d_Mo_status_23 : decode c_Mo_status 23 = .ok (.iload_n 2, 1) := by decide +kernel
theorem d_Mo_status_24 : decode c_Mo_status 24 = .ok (.ifCond .eq 7, 3) := by decide +kernel
theorem d_Mo_status_27 : decode c_Mo_status 27 = .ok (.iload_n 2, 1) := by decide +kernel
theorem d_Mo_status_28 : decode c_Mo_status 28 = .ok (.goto 23, 3) := by decide +kernel
theorem d_Mo_status_31 : decode c_Mo_status 31 = .ok (.aload_n 0, 1) := by decide +kernel
theorem d_Mo_status_32 : decode c_Mo_status 32 = .ok (.getfield 36, 3) := by decide +kernel
theorem d_Mo_status_35 : decode c_Mo_status 35 = .ok (.iload_n 1, 1) := by decide +kernel
theorem d_Mo_status_36 : decode c_Mo_status 36 = .ok (.baload, 1) := by decide +kernel
theorem d_Mo_status_37 : decode c_Mo_status 37 = .ok (.ifCond .eq 8, 3) := by decide +kernel
theorem d_Mo_status_40 : decode c_Mo_status 40 = .ok (.bipush 12, 2) := by decide +kernel
theorem d_Mo_status_42 : decode c_Mo_status 42 = .ok (.goto 9, 3) := by decide +kernel
theorem d_Mo_status_45 : decode c_Mo_status 45 = .ok (.aload_n 0, 1) := by decide +kernel
theorem d_Mo_status_46 : decode c_Mo_status 46 = .ok (.getfield 39, 3) := by decide +kernel
theorem d_Mo_status_49 : decode c_Mo_status 49 = .ok (.iload_n 1, 1) := by decide +kernel
theorem d_Mo_status_50 : decode c_Mo_status 50 = .ok (.iaload, 1) := by decide +kernel
theorem d_Mo_status_51 : decode c_Mo_status 51 = .ok (.ireturn, 1) := by decide +kernel
theorem d_Mo_value_0 : decode c_Mo_value 0 = .ok (.aload_n 0, 1) := by decide +kernel
theorem d_Mo_value_1 : decode c_Mo_value 1 = .ok (.iload_n 1, 1) := by decide +kernel
theorem d_Mo_value_2 : decode c_Mo_value 2 = .ok (.invokevirtual 240, 3) := by decide +kernel
theorem d_Mo_value_5 : decode c_Mo_value 5 = .ok (.bipush 14, 2) := by decide +kernel
theorem d_Mo_value_7 : decode c_Mo_value 7 = .ok (.if_icmp .ne 12, 3) := by decide +kernel
theorem d_Mo_value_10 : decode c_Mo_value 10 = .ok (.aload_n 0, 1) := by decide +kernel
theorem d_Mo_value_11 : decode c_Mo_value 11 = .ok (.getfield 42, 3) := by decide +kernel
theorem d_Mo_value_14 : decode c_Mo_value 14 = .ok (.iload_n 1, 1) := by decide +kernel
theorem d_Mo_value_15 : decode c_Mo_value 15 = .ok (.iaload, 1) := by decide +kernel
theorem d_Mo_value_16 : decode c_Mo_value 16 = .ok (.goto 4, 3) := by decide +kernel
theorem d_Mo_value_19 : decode c_Mo_value 19 = .ok (.iconst 0, 1) := by decide +kernel
theorem d_Mo_value_20 : decode c_Mo_value 20 = .ok (.ireturn, 1) := by decide +kernel
theorem d_Mo_kind_0 : decode c_Mo_kind 0 = .ok (.aload_n 0, 1) := by decide +kernel
theorem d_Mo_kind_1 : decode c_Mo_kind 1 = .ok (.iload_n 1, 1) := by decide +kernel
theorem d_Mo_kind_2 : decode c_Mo_kind 2 = .ok (.invokevirtual 240, 3) := by decide +kernel
theorem d_Mo_kind_5 : decode c_Mo_kind 5 = .ok (.bipush 14, 2) := by decide +kernel
theorem d_Mo_kind_7 : decode c_Mo_kind 7 = .ok (.if_icmp .ne 12, 3) := by decide +kernel
theorem d_Mo_kind_10 : decode c_Mo_kind 10 = .ok (.aload_n 0, 1) := by decide +kernel
theorem d_Mo_kind_11 : decode c_Mo_kind 11 = .ok (.getfield 45, 3) := by decide +kernel
theorem d_Mo_kind_14 : decode c_Mo_kind 14 = .ok (.iload_n 1, 1) := by decide +kernel
theorem d_Mo_kind_15 : decode c_Mo_kind 15 = .ok (.iaload, 1) := by decide +kernel
theorem d_Mo_kind_16 : decode c_Mo_kind 16 = .ok (.goto 4, 3) := by decide +kernel
theorem d_Mo_kind_19 : decode c_Mo_kind 19 = .ok (.iconst 0, 1) := by decide +kernel
theorem d_Mo_kind_20 : decode c_Mo_kind 20 = .ok (.ireturn, 1) := by decide +kernel
theorem d_Mo_uses_0 : decode c_Mo_uses 0 = .ok (.iload_n 1, 1) := by decide +kernel
theorem d_Mo_uses_1 : decode c_Mo_uses 1 = .ok (.invokestatic 138, 3) := by decide +kernel
theorem d_Mo_uses_4 : decode c_Mo_uses 4 = .ok (.ifCond .eq 12, 3) := by decide +kernel
theorem d_Mo_uses_7 : decode c_Mo_uses 7 = .ok (.aload_n 0, 1) := by decide +kernel
theorem d_Mo_uses_8 : decode c_Mo_uses 8 = .ok (.getfield 33, 3) := by decide +kernel
theorem d_Mo_uses_11 : decode c_Mo_uses 11 = .ok (.iload_n 1, 1) := by decide +kernel
theorem d_Mo_uses_12 : decode c_Mo_uses 12 = .ok (.iaload, 1) := by decide +kernel
theorem d_Mo_uses_13 : decode c_Mo_uses 13 = .ok (.goto 4, 3) := by decide +kernel
theorem d_Mo_uses_16 : decode c_Mo_uses 16 = .ok (.iconst 0, 1) := by decide +kernel
theorem d_Mo_uses_17 : decode c_Mo_uses 17 = .ok (.ireturn, 1) := by decide +kernel
theorem d_Mo_runs_0 : decode c_Mo_runs 0 = .ok (.iload_n 1, 1) := by decide +kernel
theorem d_Mo_runs_1 : decode c_Mo_runs 1 = .ok (.invokestatic 138, 3) := by decide +kernel
theorem d_Mo_runs_4 : decode c_Mo_runs 4 = .ok (.ifCond .eq 12, 3) := by decide +kernel
theorem d_Mo_runs_7 : decode c_Mo_runs 7 = .ok (.aload_n 0, 1) := by decide +kernel
theorem d_Mo_runs_8 : decode c_Mo_runs 8 = .ok (.getfield 48, 3) := by decide +kernel
theorem d_Mo_runs_11 : decode c_Mo_runs 11 = .ok (.iload_n 1, 1) := by decide +kernel
theorem d_Mo_runs_12 : decode c_Mo_runs 12 = .ok (.iaload, 1) := by decide +kernel
theorem d_Mo_runs_13 : decode c_Mo_runs 13 = .ok (.goto 4, 3) := by decide +kernel
theorem d_Mo_runs_16 : decode c_Mo_runs 16 = .ok (.iconst 0, 1) := by decide +kernel
theorem d_Mo_runs_17 : decode c_Mo_runs 17 = .ok (.ireturn, 1) := by decide +kernel
theorem d_Mo_steps_0 : decode c_Mo_steps 0 = .ok (.aload_n 0, 1) := by decide +kernel
theorem d_Mo_steps_1 : decode c_Mo_steps 1 = .ok (.getfield 179, 3) := by decide +kernel
theorem d_Mo_steps_4 : decode c_Mo_steps 4 = .ok (.ireturn, 1) := by decide +kernel
end
section
/-! ===== Int32 by its bits: bt x i ===== -/
def bt (x : Int32) (i : Nat) : Bool := x.toBitVec.getLsbD i
theorem b_ext {x y : Int32} (h : ∀ i, i < 32 → bt x i = bt y i) : x = y := Int32.toBitVec_inj.mp (BitVec.eq_of_getLsbD_eq (fun i hi => h i hi))
theorem b_or (x y : Int32) (i : Nat) : bt (x ||| y) i = (bt x i || bt y i) := by unfold bt; rw [Int32.toBitVec_or, BitVec.getLsbD_or]
theorem b_and (x y : Int32) (i : Nat) : bt (x &&& y) i = (bt x i && bt y i) := by unfold bt; rw [Int32.toBitVec_and, BitVec.getLsbD_and]
theorem b_xor (x y : Int32) (i : Nat) : bt (x ^^^ y) i = (bt x i ^^ bt y i) := by unfold bt; rw [Int32.toBitVec_xor, BitVec.getLsbD_xor]
theorem b_big {x : Int32} {i : Nat} (h : 32 ≤ i) : bt x i = false := BitVec.getLsbD_of_ge _ _ h
theorem b_255 (i : Nat) : bt 255 i = decide (i < 8) := by
  rcases Nat.lt_or_ge i 32 with h | h
  · exact (by decide +kernel : ∀ i, i < 32 → bt 255 i = decide (i < 8)) i h
  · rw [b_big h, decide_eq_false (by omega)]
theorem b_65535 (i : Nat) : bt 65535 i = decide (i < 16) := by
  rcases Nat.lt_or_ge i 32 with h | h
  · exact (by decide +kernel : ∀ i, i < 32 → bt 65535 i = decide (i < 16)) i h
  · rw [b_big h, decide_eq_false (by omega)]
theorem b_m1 : ∀ i, i < 32 → bt (-1) i = true := by decide +kernel
theorem b_0 (i : Nat) : bt 0 i = false := BitVec.getLsbD_zero
theorem s_l : ∀ n, n < 32 → ((nI n &&& 31).toBitVec.smod 32).toNat = n := by decide +kernel
theorem s_u : ∀ n, n < 32 → (((nI n).toUInt32 &&& Int32.toUInt32 31).toBitVec % 32).toNat = n := by decide +kernel
theorem b_shl (n : Nat) (hn : n < 32) (x : Int32) {i : Nat} (hi : i < 32) : bt (x <<< (nI n &&& 31)) i = (decide (n ≤ i) && bt x (i - n)) := by
  unfold bt
  rw [Int32.toBitVec_shiftLeft]
  show (x.toBitVec <<< ((nI n &&& 31).toBitVec.smod 32).toNat).getLsbD i = _
  rw [s_l n hn, BitVec.getLsbD_shiftLeft]
  rcases Nat.lt_or_ge i n with h | h
  · simp [h, Nat.not_le.mpr h]
  · simp [hi, h, Nat.not_lt.mpr h]
theorem b_ushr (n : Nat) (hn : n < 32) (x : Int32) (i : Nat) : bt ((x.toUInt32 >>> ((nI n).toUInt32 &&& Int32.toUInt32 31)).toInt32) i = bt x (n + i) := by
  show (x.toUInt32 >>> ((nI n).toUInt32 &&& Int32.toUInt32 31)).toBitVec.getLsbD i = x.toUInt32.toBitVec.getLsbD (n + i)
  rw [UInt32.toBitVec_shiftRight]
  show (x.toUInt32.toBitVec >>> (((nI n).toUInt32 &&& Int32.toUInt32 31).toBitVec % 32).toNat).getLsbD i = _
  rw [s_u n hn, BitVec.getLsbD_ushiftRight]
theorem b_sshr (n : Nat) (hn : n < 32) (x : Int32) {i : Nat} (hi : i < 32) : bt (x >>> (nI n &&& 31)) i = if n + i < 32 then bt x (n + i) else bt x 31 := by
  unfold bt
  rw [Int32.toBitVec_shiftRight]
  show (x.toBitVec.sshiftRight ((nI n &&& 31).toBitVec.smod 32).toNat).getLsbD i = _
  rw [s_l n hn, BitVec.getLsbD_sshiftRight, BitVec.msb_eq_getLsbD_last]
  simp [hi]
theorem b_1 : ∀ i, i < 32 → bt 1 i = decide (i = 0) := by decide +kernel
theorem b_bit {n i : Nat} (hn : n < 32) (hi : i < 32) : bt (1 <<< (nI n &&& 31)) i = decide (i = n) := by
  rw [b_shl n hn 1 hi, b_1 (i - n) (by omega)]
  by_cases h : i = n
  · subst h; simp
  · rw [decide_eq_false h]
    by_cases h2 : n ≤ i
    · rw [decide_eq_false (show ¬ i - n = 0 by omega), Bool.and_false]
    · rw [decide_eq_false h2, Bool.false_and]
theorem b_not (x : Int32) {i : Nat} (hi : i < 32) : bt (x ^^^ (-1)) i = !bt x i := by
  rw [b_xor, b_m1 i hi, Bool.xor_true]
/-- one bit, as the machine asks for it -/
theorem b_get (x : Int32) {i : Nat} (hi : i < 32) : (x >>> (nI i &&& 31)) &&& 1 = if bt x i = true then 1 else 0 := by
  apply b_ext
  intro j hj
  rw [b_and, b_sshr i hi x hj, b_1 j hj]
  by_cases h0 : j = 0
  · subst h0
    rw [Nat.add_zero, if_pos hi, decide_eq_true rfl, Bool.and_true]
    cases bt x i
    · simp [b_0]
    · simp only [if_true]; rw [b_1 0 (by omega)]; rfl
  · rw [decide_eq_false h0, Bool.and_false]
    cases bt x i
    · simp [b_0]
    · simp only [if_true]; rw [b_1 j hj, decide_eq_false h0]
theorem b_zero {x : Int32} : x = 0 ↔ ∀ i, i < 32 → bt x i = false := by
  constructor
  · intro h i _; rw [h, b_0]
  · intro h; exact b_ext (fun i hi => by rw [h i hi, b_0])
theorem b_nz {x : Int32} (h : ¬ x = 0) : ∃ i, i < 32 ∧ bt x i = true := by
  refine Classical.byContradiction (fun hn => h (b_zero.mpr (fun i hi => ?_)))
  cases hb : bt x i with
  | false => rfl
  | true => exact absurd ⟨i, hi, hb⟩ hn
end
section
/-! THE LANGUAGE, by itself: a text is a row of signs s with a length n; an expression is the place where it begins -/
/-- the kind of a sign: 2 two operands, 1 not, 3 choice, 4 let, 5 call, 6 match, 7 digit, 8 name, 9 bound name -/
def kd (x : Int32) : Nat :=
  if x = 43 ∨ x = 45 ∨ x = 42 ∨ x = 47 ∨ x = 60 ∨ x = 61 ∨ x = 38 then 2 else if x = 126 then 1 else if x = 63 then 3 else if x = 36 then 4 else if x = 33 then 5 else if x = 35 then 6
  else if 48 ≤ x ∧ x ≤ 57 then 7 else if 97 ≤ x ∧ x ≤ 106 then 8 else if 107 ≤ x ∧ x ≤ 112 then 9 else 0
/-- which name, which bound name -/
def nmI (x : Int32) : Nat := (x - 97).toNatClampNeg
def lcI (x : Int32) : Nat := (x - 107).toNatClampNeg
/-- behind the expression at k -/
def EN (s : Nat → Int32) : Nat → Nat → Nat
  | 0, k => k
  | d + 1, k => match kd (s k) with
    | 2 => EN s d (EN s d (k + 1))
    | 1 => EN s d (k + 1)
    | 3 => EN s d (EN s d (EN s d (k + 1)))
    | 4 => EN s d (EN s d (k + 2))
    | 5 => EN s d (k + 2)
    | 6 => EN s d (EN s d (EN s d (k + 1) + 1) + 1)
    | _ => k + 1
def bSet (b : Nat → Bool) (i : Nat) : Nat → Bool := fun j => j == i || b j
/-- an expression of at most d levels begins at k, in a text of n signs, where b are bound -/
def OK (s : Nat → Int32) (n : Nat) : Nat → (Nat → Bool) → Nat → Bool
  | 0, _, _ => false
  | d + 1, b, k => decide (k < n) && match kd (s k) with
    | 2 => OK s n d b (k + 1) && OK s n d b (EN s d (k + 1))
    | 1 => OK s n d b (k + 1)
    | 3 => OK s n d b (k + 1) && (OK s n d b (EN s d (k + 1)) && OK s n d b (EN s d (EN s d (k + 1))))
    | 4 => (decide (k + 1 < n) && decide (kd (s (k + 1)) = 9)) && (OK s n d b (k + 2) && OK s n d (bSet b (lcI (s (k + 1)))) (EN s d (k + 2)))
    | 5 => (decide (k + 1 < n) && decide (kd (s (k + 1)) = 8)) && OK s n d b (k + 2)
    | 6 => OK s n d b (k + 1) && ((decide (EN s d (k + 1) < n) && decide (kd (s (EN s d (k + 1))) = 7)) && (OK s n d b (EN s d (k + 1) + 1) &&
        ((decide (EN s d (EN s d (k + 1) + 1) < n) && decide (kd (s (EN s d (EN s d (k + 1) + 1))) = 7)) && OK s n d b (EN s d (EN s d (k + 1) + 1) + 1))))
    | 7 => true
    | 8 => true
    | 9 => b (lcI (s k))
    | _ => false
/-- the names that it uses, as bits -/
def NM (s : Nat → Int32) : Nat → Nat → Int32
  | 0, _ => 0
  | d + 1, k => match kd (s k) with
    | 2 => NM s d (k + 1) ||| NM s d (EN s d (k + 1))
    | 1 => NM s d (k + 1)
    | 3 => NM s d (k + 1) ||| (NM s d (EN s d (k + 1)) ||| NM s d (EN s d (EN s d (k + 1))))
    | 4 => NM s d (k + 2) ||| NM s d (EN s d (k + 2))
    | 5 => (1 <<< (nI (nmI (s (k + 1))) &&& 31)) ||| NM s d (k + 2)
    | 6 => NM s d (k + 1) ||| (NM s d (EN s d (k + 1) + 1) ||| NM s d (EN s d (EN s d (k + 1) + 1) + 1))
    | 8 => 1 <<< (nI (nmI (s k)) &&& 31)
    | _ => 0
/-- e holds the ends of the expression at k and of all in it -/
def EO (s : Nat → Int32) (e : Nat → Int32) : Nat → Nat → Prop
  | 0, _ => True
  | d + 1, k => e k = nI (EN s (d + 1) k) ∧ match kd (s k) with
    | 2 => EO s e d (k + 1) ∧ EO s e d (EN s d (k + 1))
    | 1 => EO s e d (k + 1)
    | 3 => EO s e d (k + 1) ∧ EO s e d (EN s d (k + 1)) ∧ EO s e d (EN s d (EN s d (k + 1)))
    | 4 => EO s e d (k + 2) ∧ EO s e d (EN s d (k + 2))
    | 5 => EO s e d (k + 2)
    | 6 => EO s e d (k + 1) ∧ EO s e d (EN s d (k + 1) + 1) ∧ EO s e d (EN s d (EN s d (k + 1) + 1) + 1)
    | _ => True
end
section
/-! WAYS: Warshall's squares, and a set that grows, are both the ways of a relation over ten places -/
/-- ways whose places between lie below b -/
def Wb (E : Nat → Nat → Bool) : Nat → Nat → Nat → Bool
  | 0, c, d => E c d
  | b + 1, c, d => Wb E b c d || (Wb E b c b && Wb E b b d)
theorem Wb_trans (E : Nat → Nat → Bool) : ∀ b c m d, m < b → Wb E b c m = true → Wb E b m d = true → Wb E b c d = true := by
  intro b
  induction b with
  | zero => intro c m d h; omega
  | succ b ih =>
    intro c m d hm h1 h2
    simp only [Wb, Bool.or_eq_true, Bool.and_eq_true] at h1 h2 ⊢
    by_cases hb : m = b
    · subst hb
      have e1 : Wb E m c m = true := by rcases h1 with h | h; exact h; exact h.1
      have e2 : Wb E m m d = true := by rcases h2 with h | h; exact h; exact h.2
      exact Or.inr ⟨e1, e2⟩
    · have hlt : m < b := by omega
      rcases h1 with h1 | ⟨h1, h1'⟩ <;> rcases h2 with h2 | ⟨h2, h2'⟩
      · exact Or.inl (ih c m d hlt h1 h2)
      · exact Or.inr ⟨ih c m b hlt h1 h2, h2'⟩
      · exact Or.inr ⟨h1, ih b m d hlt h1' h2⟩
      · exact Or.inr ⟨h1, h2'⟩
theorem Wb_sound (E : Nat → Nat → Bool) : ∀ b c d, Wb E b c d = true → Relation.TransGen (fun a a' => E a a' = true) c d := by
  intro b
  induction b with
  | zero => intro c d h; exact .single h
  | succ b ih =>
    intro c d h
    simp only [Wb, Bool.or_eq_true, Bool.and_eq_true] at h
    rcases h with h | ⟨h1, h2⟩
    · exact ih c d h
    · exact Relation.TransGen.trans (ih c b h1) (ih b d h2)
theorem Wb_edge (E : Nat → Nat → Bool) : ∀ b c d, E c d = true → Wb E b c d = true := by
  intro b
  induction b with
  | zero => intro c d h; exact h
  | succ b ih => intro c d h; simp only [Wb, ih c d h, Bool.true_or]
theorem Wb_full {E : Nat → Nat → Bool} {n : Nat} (hE : ∀ a a', E a a' = true → a' < n) {c d : Nat} (h : Relation.TransGen (fun a a' => E a a' = true) c d) : d < n ∧ Wb E n c d = true := by
  induction h with
  | single h => exact ⟨hE _ _ h, Wb_edge E n _ _ h⟩
  | tail _ h ih => exact ⟨hE _ _ h, Wb_trans E n _ _ _ ih.1 ih.2 (Wb_edge E n _ _ h)⟩
/-- how many of the first n are in a set -/
def cnt (f : Nat → Bool) : Nat → Nat
  | 0 => 0
  | n + 1 => cnt f n + (if f n then 1 else 0)
theorem cnt_le (f : Nat → Bool) : ∀ n, cnt f n ≤ n := by
  intro n
  induction n with
  | zero => exact Nat.le_refl _
  | succ n ih => unfold cnt; split <;> omega
theorem cnt_mono {f g : Nat → Bool} : ∀ n, (∀ i, i < n → f i = true → g i = true) → cnt f n ≤ cnt g n := by
  intro n
  induction n with
  | zero => intro _; exact Nat.le_refl _
  | succ n ih =>
    intro h
    have h1 := ih (fun i hi => h i (by omega))
    unfold cnt
    by_cases hf : f n = true
    · rw [if_pos hf, if_pos (h n (by omega) hf)]; omega
    · rw [if_neg hf]; split <;> omega
theorem cnt_lt {f g : Nat → Bool} : ∀ n, (∀ i, i < n → f i = true → g i = true) → ∀ j, j < n → f j = false → g j = true → cnt f n < cnt g n := by
  intro n
  induction n with
  | zero => intro _ j hj; omega
  | succ n ih =>
    intro h j hj hf hg
    by_cases hjn : j = n
    · subst hjn
      have h1 := cnt_mono j (fun i hi => h i (by omega))
      unfold cnt
      rw [if_neg (by rw [hf]; decide), if_pos hg]
      omega
    · have h1 := ih (fun i hi => h i (by omega)) j (by omega) hf hg
      unfold cnt
      by_cases hfn : f n = true
      · rw [if_pos hfn, if_pos (h n (by omega) hfn)]; omega
      · rw [if_neg hfn]; split <;> omega
/-- a set of at most n places that grows in every round until it is closed is closed behind n rounds -/
theorem grows_closed {n : Nat} (R : Nat → Nat → Bool) (closed : (Nat → Bool) → Prop) (hmono : ∀ t i, R t i = true → R (t + 1) i = true) (hstep : ∀ t, closed (R t) ∨ ∃ j, j < n ∧ R t j = false ∧ R (t + 1) j = true) (hstay : ∀ t, closed (R t) → closed (R (t + 1))) : closed (R n) := by
  have key : ∀ t, closed (R t) ∨ t ≤ cnt (R t) n := by
    intro t
    induction t with
    | zero => exact Or.inr (Nat.zero_le _)
    | succ t ih =>
      rcases ih with h | h
      · exact Or.inl (hstay t h)
      · rcases hstep t with h1 | ⟨j, hj, h2, h3⟩
        · exact Or.inl (hstay t h1)
        · have := cnt_lt n (fun i _ => hmono t i) j hj h2 h3
          exact Or.inr (by omega)
  rcases key n with h | h
  · exact h
  · rcases hstep n with h1 | ⟨j, hj, h2, h3⟩
    · exact h1
    · have h4 := cnt_lt n (fun i _ => hmono n i) j hj h2 h3
      have h5 := cnt_le (R (n + 1)) n
      omega
end
section
/-! TYPES AND MEANING -/
/-- the type of the expression at k: 1 INT, 2 BOOL, 0 none; tn: the type of a name's value, fn: which names are functions -/
def TY (s : Nat → Int32) (tn : Nat → Int32) (fn : Nat → Bool) : Nat → Nat → Int32
  | 0, _ => 0
  | d + 1, k => match kd (s k) with
    | 2 => if s k = 38 then (if TY s tn fn d (k + 1) = 2 ∧ TY s tn fn d (EN s d (k + 1)) = 2 then 2 else 0)
        else if TY s tn fn d (k + 1) = 1 ∧ TY s tn fn d (EN s d (k + 1)) = 1 then (if s k = 60 ∨ s k = 61 then 2 else 1) else 0
    | 1 => if TY s tn fn d (k + 1) = 2 then 2 else 0
    | 3 => if TY s tn fn d (k + 1) = 2 ∧ TY s tn fn d (EN s d (k + 1)) = TY s tn fn d (EN s d (EN s d (k + 1))) then TY s tn fn d (EN s d (k + 1)) else 0
    | 4 => if TY s tn fn d (k + 2) = 1 then TY s tn fn d (EN s d (k + 2)) else 0
    | 5 => if TY s tn fn d (k + 2) = 1 ∧ fn (nmI (s (k + 1))) = true then 1 else 0
    | 6 => if TY s tn fn d (k + 1) = 1 ∧ TY s tn fn d (EN s d (k + 1) + 1) = 1 ∧ TY s tn fn d (EN s d (EN s d (k + 1) + 1) + 1) = 1 then 1 else 0
    | 8 => tn (nmI (s k))
    | _ => 1
/-- what comes of an evaluation: the error (0: none), the value, the steps made -/
abbrev Rs : Type := Int32 × Int32 × Nat
def bd (r : Rs) (f : Int32 → Nat → Rs) : Rs := if r.1 = 0 then f r.2.1 r.2.2 else (r.1, 0, r.2.2)
def jn (x a b : Int32) (n : Nat) : Rs :=
  if x = 38 then (0, b, n) else if x = 47 then (if b = 0 then (7, 0, n) else (0, a / b, n)) else
  (0, if x = 43 then a + b else if x = 45 then a - b else if x = 42 then a * b else if x = 60 then (if a < b then 1 else 0) else (if a = b then 1 else 0), n)
/-- the expression at k of cell c's text, with these bound values, n steps made before -/
def EV (tx : Nat → Nat → Int32) (df : Nat → Nat) (am : Nat → Int32) (cl : Nat → Int32 → Nat → Rs) (c : Nat) : Nat → Nat → (Nat → Int32) → Nat → Rs
  | 0, _, _, n => (9, 0, n)
  | d + 1, k, lc, n => if 2000 ≤ n then (10, 0, n) else match kd (tx c k) with
    | 2 => bd (EV tx df am cl c d (k + 1) lc (n + 1)) fun v m => if tx c k = 38 ∧ v = 0 then (0, 0, m) else bd (EV tx df am cl c d (EN (tx c) d (k + 1)) lc m) fun w m' => jn (tx c k) v w m'
    | 1 => bd (EV tx df am cl c d (k + 1) lc (n + 1)) fun v m => (0, 1 - v, m)
    | 3 => bd (EV tx df am cl c d (k + 1) lc (n + 1)) fun v m => bd (EV tx df am cl c d (if v = 0 then EN (tx c) d (EN (tx c) d (k + 1)) else EN (tx c) d (k + 1)) lc m) fun w m' => (0, w, m')
    | 4 => bd (EV tx df am cl c d (k + 2) lc (n + 1)) fun v m => bd (EV tx df am cl c d (EN (tx c) d (k + 2)) (upd lc (lcI (tx c (k + 1))) v) m) fun w m' => (0, w, m')
    | 5 => bd (EV tx df am cl c d (k + 2) lc (n + 1)) fun v m => bd (cl (df (nmI (tx c (k + 1)))) v m) fun w m' => (0, w, m')
    | 6 => bd (EV tx df am cl c d (k + 1) lc (n + 1)) fun v m => if v = tx c (EN (tx c) d (k + 1)) - 48 then bd (EV tx df am cl c d (EN (tx c) d (k + 1) + 1) lc m) fun w m' => (0, w, m')
        else if v = tx c (EN (tx c) d (EN (tx c) d (k + 1) + 1)) - 48 then bd (EV tx df am cl c d (EN (tx c) d (EN (tx c) d (k + 1) + 1) + 1) lc m) fun w m' => (0, w, m') else (8, 0, m)
    | 7 => (0, tx c k - 48, n + 1)
    | 8 => (0, am (df (nmI (tx c k))), n + 1)
    | _ => (0, lc (lcI (tx c k)), n + 1)
/-- a call, with so many functions that may still be opened -/
def CL (tx : Nat → Nat → Int32) (df : Nat → Nat) (am : Nat → Int32) : Nat → Nat → Int32 → Nat → Rs
  | 0 => fun _ _ n => (9, 0, n)
  | o + 1 => fun c a n => EV tx df am (CL tx df am o) c 6 2 (fun j => if j = lcI (tx c 1) then a else 0) n
/-! THE BOOK, by itself: rows of Int32: 0 (0 how many signs are typed, 1 the steps), 1 the typed signs, 2 names, 3 lengths, 4 stale, 5 results, 6 values, 7 kinds, 8 runs; 20 + c the signs of cell c -/
def lenN (β : Me) (c : Nat) : Nat := (β 3 c).toNatClampNeg
def thB (β : Me) (c : Nat) : Bool := decide (0 ≤ β 2 c)
def nmN (β : Me) (c : Nat) : Nat := (β 2 c).toNatClampNeg
def hdB (β : Me) (c : Nat) : Bool := decide (β (20 + c) 0 = 92) && (decide (1 < lenN β c) && decide (kd (β (20 + c) 1) = 9))
def stN (β : Me) (c : Nat) : Nat := if hdB β c = true then 2 else 0
def b0 (β : Me) (c : Nat) : Nat → Bool := fun j => hdB β c && decide (j = lcI (β (20 + c) 1))
def wlB (β : Me) (c : Nat) : Bool := thB β c && (OK (β (20 + c)) (lenN β c) 6 (b0 β c) (stN β c) && decide (EN (β (20 + c)) 6 (stN β c) = lenN β c))
def usI (β : Me) (c : Nat) : Int32 := if wlB β c = true then NM (β (20 + c)) 6 (stN β c) else 0
def fnB (β : Me) (c : Nat) : Bool := wlB β c && hdB β c
/-- c uses the name of d -/
def ndB (β : Me) (c d : Nat) : Bool := thB β d && bt (usI β c) (nmN β d)
def egB (β : Me) (c d : Nat) : Bool := decide (d < 10) && (ndB β c d && !(decide (d = c) && fnB β c))
def cyB (β : Me) (c : Nat) : Bool := Wb (egB β) 10 c c
def dpB (β : Me) (c : Nat) : Bool := (List.range 10).any fun d => decide (d ≠ c) && decide (β 2 d = β 2 c)
/-- the last cell below n that defines j; n none -/
def dfL (β : Me) (j : Nat) : Nat → Int32
  | 0 => -1
  | n + 1 => if β 2 n = nI j then nI n else dfL β j n
def dfN (β : Me) (j : Nat) : Nat := (dfL β j 10).toNatClampNeg
def msB (β : Me) (c : Nat) : Bool := (List.range 10).any fun j => bt (usI β c) j && decide (dfL β j 10 < 0)
def ftI (β : Me) (c : Nat) : Int32 := if wlB β c = true then (if dpB β c = true then 2 else if msB β c = true then 3 else if cyB β c = true then 4 else 0) else 1
/-- who becomes stale when these names are touched -/
def nrB (β : Me) (nms : Int32) (d : Nat) : Bool := thB β d && (bt nms (nmN β d) || decide (usI β d &&& nms ≠ 0))
def ngB (β : Me) (c d : Nat) : Bool := decide (d < 10) && ndB β c d
def tcB (β : Me) (nms : Int32) (d : Nat) : Bool := thB β d && (nrB β nms d || (List.range 10).any fun x => nrB β nms x && Wb (ngB β) 10 d x)
/-- work -/
def rdB (β : Me) (c : Nat) : Bool := thB β c && (decide (β 4 c = 1) && (decide (ftI β c ≠ 0) || !((List.range 10).any fun d => decide (d ≠ c) && (ndB β c d && decide (β 4 d = 1)))))
def bkB (β : Me) (c : Nat) : Bool := (List.range 10).any fun d => decide (d ≠ c) && (ndB β c d && (decide (ftI β d ≠ 0) || (decide (β 5 d ≠ 14) && decide (β 5 d ≠ 13))))
def tnI (β : Me) (c j : Nat) : Int32 := if β 2 c = nI j then 0 else if β 5 (dfN β j) = 14 then β 7 (dfN β j) else 0
def fjB (β : Me) (c j : Nat) : Bool := if dfN β j = c then fnB β c else decide (β 5 (dfN β j) = 13)
def tyI (β : Me) (c : Nat) : Int32 := TY (β (20 + c)) (tnI β c) (fjB β c) 6 (stN β c)
def evR (β : Me) (c : Nat) : Rs := EV (fun d => β (20 + d)) (dfN β) (β 6) (CL (fun d => β (20 + d)) (dfN β) (β 6) 5) c 6 0 (fun _ => 0) 0
end
section
/-! THE SAME, kind by kind -/
theorem EN_2 (s : Nat → Int32) (d k : Nat) (h : kd (s k) = 2) : EN s (d + 1) k = (EN s d (EN s d (k + 1))) := by simp only [EN, h]
theorem EN_1 (s : Nat → Int32) (d k : Nat) (h : kd (s k) = 1) : EN s (d + 1) k = (EN s d (k + 1)) := by simp only [EN, h]
theorem EN_3 (s : Nat → Int32) (d k : Nat) (h : kd (s k) = 3) : EN s (d + 1) k = (EN s d (EN s d (EN s d (k + 1)))) := by simp only [EN, h]
theorem EN_4 (s : Nat → Int32) (d k : Nat) (h : kd (s k) = 4) : EN s (d + 1) k = (EN s d (EN s d (k + 2))) := by simp only [EN, h]
theorem EN_5 (s : Nat → Int32) (d k : Nat) (h : kd (s k) = 5) : EN s (d + 1) k = (EN s d (k + 2)) := by simp only [EN, h]
theorem EN_6 (s : Nat → Int32) (d k : Nat) (h : kd (s k) = 6) : EN s (d + 1) k = (EN s d (EN s d (EN s d (k + 1) + 1) + 1)) := by simp only [EN, h]
theorem EN_7 (s : Nat → Int32) (d k : Nat) (h : kd (s k) = 7) : EN s (d + 1) k = (k + 1) := by simp only [EN, h]
theorem EN_8 (s : Nat → Int32) (d k : Nat) (h : kd (s k) = 8) : EN s (d + 1) k = (k + 1) := by simp only [EN, h]
theorem EN_9 (s : Nat → Int32) (d k : Nat) (h : kd (s k) = 9) : EN s (d + 1) k = (k + 1) := by simp only [EN, h]
theorem OK_2 (s : Nat → Int32) (n d : Nat) (b : Nat → Bool) (k : Nat) (h : kd (s k) = 2) : OK s n (d + 1) b k = (decide (k < n) && (OK s n d b (k + 1) && OK s n d b (EN s d (k + 1)))) := by simp only [OK, h]
theorem OK_1 (s : Nat → Int32) (n d : Nat) (b : Nat → Bool) (k : Nat) (h : kd (s k) = 1) : OK s n (d + 1) b k = (decide (k < n) && (OK s n d b (k + 1))) := by simp only [OK, h]
theorem OK_3 (s : Nat → Int32) (n d : Nat) (b : Nat → Bool) (k : Nat) (h : kd (s k) = 3) : OK s n (d + 1) b k = (decide (k < n) && (OK s n d b (k + 1) && (OK s n d b (EN s d (k + 1)) && OK s n d b (EN s d (EN s d (k + 1)))))) := by simp only [OK, h]
theorem OK_4 (s : Nat → Int32) (n d : Nat) (b : Nat → Bool) (k : Nat) (h : kd (s k) = 4) : OK s n (d + 1) b k = (decide (k < n) && ((decide (k + 1 < n) && decide (kd (s (k + 1)) = 9)) && (OK s n d b (k + 2) && OK s n d (bSet b (lcI (s (k + 1)))) (EN s d (k + 2))))) := by simp only [OK, h]
theorem OK_5 (s : Nat → Int32) (n d : Nat) (b : Nat → Bool) (k : Nat) (h : kd (s k) = 5) : OK s n (d + 1) b k = (decide (k < n) && ((decide (k + 1 < n) && decide (kd (s (k + 1)) = 8)) && OK s n d b (k + 2))) := by simp only [OK, h]
theorem OK_6 (s : Nat → Int32) (n d : Nat) (b : Nat → Bool) (k : Nat) (h : kd (s k) = 6) : OK s n (d + 1) b k = (decide (k < n) && (OK s n d b (k + 1) && ((decide (EN s d (k + 1) < n) && decide (kd (s (EN s d (k + 1))) = 7)) && (OK s n d b (EN s d (k + 1) + 1) && ((decide (EN s d (EN s d (k + 1) + 1) < n) && decide (kd (s (EN s d (EN s d (k + 1) + 1))) = 7)) && OK s n d b (EN s d (EN s d (k + 1) + 1) + 1)))))) := by simp only [OK, h]
theorem OK_7 (s : Nat → Int32) (n d : Nat) (b : Nat → Bool) (k : Nat) (h : kd (s k) = 7) : OK s n (d + 1) b k = (decide (k < n) && (true)) := by simp only [OK, h]
theorem OK_8 (s : Nat → Int32) (n d : Nat) (b : Nat → Bool) (k : Nat) (h : kd (s k) = 8) : OK s n (d + 1) b k = (decide (k < n) && (true)) := by simp only [OK, h]
theorem OK_9 (s : Nat → Int32) (n d : Nat) (b : Nat → Bool) (k : Nat) (h : kd (s k) = 9) : OK s n (d + 1) b k = (decide (k < n) && (b (lcI (s k)))) := by simp only [OK, h]
theorem NM_2 (s : Nat → Int32) (d k : Nat) (h : kd (s k) = 2) : NM s (d + 1) k = (NM s d (k + 1) ||| NM s d (EN s d (k + 1))) := by simp only [NM, h]
theorem NM_1 (s : Nat → Int32) (d k : Nat) (h : kd (s k) = 1) : NM s (d + 1) k = (NM s d (k + 1)) := by simp only [NM, h]
theorem NM_3 (s : Nat → Int32) (d k : Nat) (h : kd (s k) = 3) : NM s (d + 1) k = (NM s d (k + 1) ||| (NM s d (EN s d (k + 1)) ||| NM s d (EN s d (EN s d (k + 1))))) := by simp only [NM, h]
theorem NM_4 (s : Nat → Int32) (d k : Nat) (h : kd (s k) = 4) : NM s (d + 1) k = (NM s d (k + 2) ||| NM s d (EN s d (k + 2))) := by simp only [NM, h]
theorem NM_5 (s : Nat → Int32) (d k : Nat) (h : kd (s k) = 5) : NM s (d + 1) k = ((1 <<< (nI (nmI (s (k + 1))) &&& 31)) ||| NM s d (k + 2)) := by simp only [NM, h]
theorem NM_6 (s : Nat → Int32) (d k : Nat) (h : kd (s k) = 6) : NM s (d + 1) k = (NM s d (k + 1) ||| (NM s d (EN s d (k + 1) + 1) ||| NM s d (EN s d (EN s d (k + 1) + 1) + 1))) := by simp only [NM, h]
theorem NM_7 (s : Nat → Int32) (d k : Nat) (h : kd (s k) = 7) : NM s (d + 1) k = (0) := by simp only [NM, h]
theorem NM_8 (s : Nat → Int32) (d k : Nat) (h : kd (s k) = 8) : NM s (d + 1) k = (1 <<< (nI (nmI (s k)) &&& 31)) := by simp only [NM, h]
theorem NM_9 (s : Nat → Int32) (d k : Nat) (h : kd (s k) = 9) : NM s (d + 1) k = (0) := by simp only [NM, h]
theorem EO_2 (s e : Nat → Int32) (d k : Nat) (h : kd (s k) = 2) : EO s e (d + 1) k = (e k = nI (EN s (d + 1) k) ∧ (EO s e d (k + 1) ∧ EO s e d (EN s d (k + 1)))) := by simp only [EO, h]
theorem EO_1 (s e : Nat → Int32) (d k : Nat) (h : kd (s k) = 1) : EO s e (d + 1) k = (e k = nI (EN s (d + 1) k) ∧ (EO s e d (k + 1))) := by simp only [EO, h]
theorem EO_3 (s e : Nat → Int32) (d k : Nat) (h : kd (s k) = 3) : EO s e (d + 1) k = (e k = nI (EN s (d + 1) k) ∧ (EO s e d (k + 1) ∧ EO s e d (EN s d (k + 1)) ∧ EO s e d (EN s d (EN s d (k + 1))))) := by simp only [EO, h]
theorem EO_4 (s e : Nat → Int32) (d k : Nat) (h : kd (s k) = 4) : EO s e (d + 1) k = (e k = nI (EN s (d + 1) k) ∧ (EO s e d (k + 2) ∧ EO s e d (EN s d (k + 2)))) := by simp only [EO, h]
theorem EO_5 (s e : Nat → Int32) (d k : Nat) (h : kd (s k) = 5) : EO s e (d + 1) k = (e k = nI (EN s (d + 1) k) ∧ (EO s e d (k + 2))) := by simp only [EO, h]
theorem EO_6 (s e : Nat → Int32) (d k : Nat) (h : kd (s k) = 6) : EO s e (d + 1) k = (e k = nI (EN s (d + 1) k) ∧ (EO s e d (k + 1) ∧ EO s e d (EN s d (k + 1) + 1) ∧ EO s e d (EN s d (EN s d (k + 1) + 1) + 1))) := by simp only [EO, h]
theorem EO_7 (s e : Nat → Int32) (d k : Nat) (h : kd (s k) = 7) : EO s e (d + 1) k = (e k = nI (EN s (d + 1) k) ∧ (True)) := by simp only [EO, h]
theorem EO_8 (s e : Nat → Int32) (d k : Nat) (h : kd (s k) = 8) : EO s e (d + 1) k = (e k = nI (EN s (d + 1) k) ∧ (True)) := by simp only [EO, h]
theorem EO_9 (s e : Nat → Int32) (d k : Nat) (h : kd (s k) = 9) : EO s e (d + 1) k = (e k = nI (EN s (d + 1) k) ∧ (True)) := by simp only [EO, h]
theorem TY_2 (s : Nat → Int32) (tn : Nat → Int32) (fn : Nat → Bool) (d k : Nat) (h : kd (s k) = 2) : TY s tn fn (d + 1) k = (if s k = 38 then (if TY s tn fn d (k + 1) = 2 ∧ TY s tn fn d (EN s d (k + 1)) = 2 then 2 else 0) else if TY s tn fn d (k + 1) = 1 ∧ TY s tn fn d (EN s d (k + 1)) = 1 then (if s k = 60 ∨ s k = 61 then 2 else 1) else 0) := by simp only [TY, h]
theorem TY_1 (s : Nat → Int32) (tn : Nat → Int32) (fn : Nat → Bool) (d k : Nat) (h : kd (s k) = 1) : TY s tn fn (d + 1) k = (if TY s tn fn d (k + 1) = 2 then 2 else 0) := by simp only [TY, h]
theorem TY_3 (s : Nat → Int32) (tn : Nat → Int32) (fn : Nat → Bool) (d k : Nat) (h : kd (s k) = 3) : TY s tn fn (d + 1) k = (if TY s tn fn d (k + 1) = 2 ∧ TY s tn fn d (EN s d (k + 1)) = TY s tn fn d (EN s d (EN s d (k + 1))) then TY s tn fn d (EN s d (k + 1)) else 0) := by simp only [TY, h]
theorem TY_4 (s : Nat → Int32) (tn : Nat → Int32) (fn : Nat → Bool) (d k : Nat) (h : kd (s k) = 4) : TY s tn fn (d + 1) k = (if TY s tn fn d (k + 2) = 1 then TY s tn fn d (EN s d (k + 2)) else 0) := by simp only [TY, h]
theorem TY_5 (s : Nat → Int32) (tn : Nat → Int32) (fn : Nat → Bool) (d k : Nat) (h : kd (s k) = 5) : TY s tn fn (d + 1) k = (if TY s tn fn d (k + 2) = 1 ∧ fn (nmI (s (k + 1))) = true then 1 else 0) := by simp only [TY, h]
theorem TY_6 (s : Nat → Int32) (tn : Nat → Int32) (fn : Nat → Bool) (d k : Nat) (h : kd (s k) = 6) : TY s tn fn (d + 1) k = (if TY s tn fn d (k + 1) = 1 ∧ TY s tn fn d (EN s d (k + 1) + 1) = 1 ∧ TY s tn fn d (EN s d (EN s d (k + 1) + 1) + 1) = 1 then 1 else 0) := by simp only [TY, h]
theorem TY_7 (s : Nat → Int32) (tn : Nat → Int32) (fn : Nat → Bool) (d k : Nat) (h : kd (s k) = 7) : TY s tn fn (d + 1) k = (1) := by simp only [TY, h]
theorem TY_8 (s : Nat → Int32) (tn : Nat → Int32) (fn : Nat → Bool) (d k : Nat) (h : kd (s k) = 8) : TY s tn fn (d + 1) k = (tn (nmI (s k))) := by simp only [TY, h]
theorem TY_9 (s : Nat → Int32) (tn : Nat → Int32) (fn : Nat → Bool) (d k : Nat) (h : kd (s k) = 9) : TY s tn fn (d + 1) k = (1) := by simp only [TY, h]
theorem EV_2 (tx : Nat → Nat → Int32) (df : Nat → Nat) (am : Nat → Int32) (cl : Nat → Int32 → Nat → Rs) (c d k : Nat) (lc : Nat → Int32) (n : Nat) (hn : n < 2000) (h : kd (tx c k) = 2) : EV tx df am cl c (d + 1) k lc n = (bd (EV tx df am cl c d (k + 1) lc (n + 1)) fun v m => if tx c k = 38 ∧ v = 0 then (0, 0, m) else bd (EV tx df am cl c d (EN (tx c) d (k + 1)) lc m) fun w m' => jn (tx c k) v w m') := by simp only [EV, h, if_neg (Nat.not_le.mpr hn)]
theorem EV_1 (tx : Nat → Nat → Int32) (df : Nat → Nat) (am : Nat → Int32) (cl : Nat → Int32 → Nat → Rs) (c d k : Nat) (lc : Nat → Int32) (n : Nat) (hn : n < 2000) (h : kd (tx c k) = 1) : EV tx df am cl c (d + 1) k lc n = (bd (EV tx df am cl c d (k + 1) lc (n + 1)) fun v m => (0, 1 - v, m)) := by simp only [EV, h, if_neg (Nat.not_le.mpr hn)]
theorem EV_3 (tx : Nat → Nat → Int32) (df : Nat → Nat) (am : Nat → Int32) (cl : Nat → Int32 → Nat → Rs) (c d k : Nat) (lc : Nat → Int32) (n : Nat) (hn : n < 2000) (h : kd (tx c k) = 3) : EV tx df am cl c (d + 1) k lc n = (bd (EV tx df am cl c d (k + 1) lc (n + 1)) fun v m => bd (EV tx df am cl c d (if v = 0 then EN (tx c) d (EN (tx c) d (k + 1)) else EN (tx c) d (k + 1)) lc m) fun w m' => (0, w, m')) := by simp only [EV, h, if_neg (Nat.not_le.mpr hn)]
theorem EV_4 (tx : Nat → Nat → Int32) (df : Nat → Nat) (am : Nat → Int32) (cl : Nat → Int32 → Nat → Rs) (c d k : Nat) (lc : Nat → Int32) (n : Nat) (hn : n < 2000) (h : kd (tx c k) = 4) : EV tx df am cl c (d + 1) k lc n = (bd (EV tx df am cl c d (k + 2) lc (n + 1)) fun v m => bd (EV tx df am cl c d (EN (tx c) d (k + 2)) (upd lc (lcI (tx c (k + 1))) v) m) fun w m' => (0, w, m')) := by simp only [EV, h, if_neg (Nat.not_le.mpr hn)]
theorem EV_5 (tx : Nat → Nat → Int32) (df : Nat → Nat) (am : Nat → Int32) (cl : Nat → Int32 → Nat → Rs) (c d k : Nat) (lc : Nat → Int32) (n : Nat) (hn : n < 2000) (h : kd (tx c k) = 5) : EV tx df am cl c (d + 1) k lc n = (bd (EV tx df am cl c d (k + 2) lc (n + 1)) fun v m => bd (cl (df (nmI (tx c (k + 1)))) v m) fun w m' => (0, w, m')) := by simp only [EV, h, if_neg (Nat.not_le.mpr hn)]
theorem EV_6 (tx : Nat → Nat → Int32) (df : Nat → Nat) (am : Nat → Int32) (cl : Nat → Int32 → Nat → Rs) (c d k : Nat) (lc : Nat → Int32) (n : Nat) (hn : n < 2000) (h : kd (tx c k) = 6) : EV tx df am cl c (d + 1) k lc n = (bd (EV tx df am cl c d (k + 1) lc (n + 1)) fun v m => if v = tx c (EN (tx c) d (k + 1)) - 48 then bd (EV tx df am cl c d (EN (tx c) d (k + 1) + 1) lc m) fun w m' => (0, w, m') else if v = tx c (EN (tx c) d (EN (tx c) d (k + 1) + 1)) - 48 then bd (EV tx df am cl c d (EN (tx c) d (EN (tx c) d (k + 1) + 1) + 1) lc m) fun w m' => (0, w, m') else (8, 0, m)) := by simp only [EV, h, if_neg (Nat.not_le.mpr hn)]
theorem EV_7 (tx : Nat → Nat → Int32) (df : Nat → Nat) (am : Nat → Int32) (cl : Nat → Int32 → Nat → Rs) (c d k : Nat) (lc : Nat → Int32) (n : Nat) (hn : n < 2000) (h : kd (tx c k) = 7) : EV tx df am cl c (d + 1) k lc n = ((0, tx c k - 48, n + 1)) := by simp only [EV, h, if_neg (Nat.not_le.mpr hn)]
theorem EV_8 (tx : Nat → Nat → Int32) (df : Nat → Nat) (am : Nat → Int32) (cl : Nat → Int32 → Nat → Rs) (c d k : Nat) (lc : Nat → Int32) (n : Nat) (hn : n < 2000) (h : kd (tx c k) = 8) : EV tx df am cl c (d + 1) k lc n = ((0, am (df (nmI (tx c k))), n + 1)) := by simp only [EV, h, if_neg (Nat.not_le.mpr hn)]
theorem EV_9 (tx : Nat → Nat → Int32) (df : Nat → Nat) (am : Nat → Int32) (cl : Nat → Int32 → Nat → Rs) (c d k : Nat) (lc : Nat → Int32) (n : Nat) (hn : n < 2000) (h : kd (tx c k) = 9) : EV tx df am cl c (d + 1) k lc n = ((0, lc (lcI (tx c k)), n + 1)) := by simp only [EV, h, if_neg (Nat.not_le.mpr hn)]
theorem EV_f (tx : Nat → Nat → Int32) (df : Nat → Nat) (am : Nat → Int32) (cl : Nat → Int32 → Nat → Rs) (c d k : Nat) (lc : Nat → Int32) (n : Nat) (hn : 2000 ≤ n) : EV tx df am cl c (d + 1) k lc n = (10, 0, n) := by simp only [EV, if_pos hn]
theorem OK_k {s : Nat → Int32} {n d : Nat} {b : Nat → Bool} {k : Nat} (h : OK s n (d + 1) b k = true) : k < n := by unfold OK at h; simp only [Bool.and_eq_true, decide_eq_true_eq] at h; exact h.1
theorem OK_kd {s : Nat → Int32} {n d : Nat} {b : Nat → Bool} {k : Nat} (h : OK s n (d + 1) b k = true) : kd (s k) = 2 ∨ kd (s k) = 1 ∨ kd (s k) = 3 ∨ kd (s k) = 4 ∨ kd (s k) = 5 ∨ kd (s k) = 6 ∨ kd (s k) = 7 ∨ kd (s k) = 8 ∨ kd (s k) = 9 := by
  unfold OK at h
  simp only [Bool.and_eq_true] at h
  have h := h.2
  generalize kd (s k) = q at h ⊢
  split at h <;> first | omega | cases h
end
section
/-! KINDS OF SIGNS -/
theorem kd_cases (x : Int32) : kd x = 2 ∨ kd x = 1 ∨ kd x = 3 ∨ kd x = 4 ∨ kd x = 5 ∨ kd x = 6 ∨ kd x = 7 ∨ kd x = 8 ∨ kd x = 9 ∨ kd x = 0 := by
  unfold kd
  repeat' split
  all_goals simp
theorem kd_2 (x : Int32) : kd x = 2 ↔ (x = 43 ∨ x = 45 ∨ x = 42 ∨ x = 47 ∨ x = 60 ∨ x = 61 ∨ x = 38) := by
  unfold kd
  constructor
  · intro h
    repeat' split at h
    all_goals first | assumption | exact absurd h (by decide)
  · intro h; rw [if_pos h]
theorem kd_1 (x : Int32) : kd x = 1 ↔ x = 126 := by
  unfold kd
  constructor
  · intro h
    repeat' split at h
    all_goals first | assumption | exact absurd h (by decide)
  · intro h; subst h; decide
theorem kd_3 (x : Int32) : kd x = 3 ↔ x = 63 := by
  unfold kd
  constructor
  · intro h
    repeat' split at h
    all_goals first | assumption | exact absurd h (by decide)
  · intro h; subst h; decide
theorem kd_4 (x : Int32) : kd x = 4 ↔ x = 36 := by
  unfold kd
  constructor
  · intro h
    repeat' split at h
    all_goals first | assumption | exact absurd h (by decide)
  · intro h; subst h; decide
theorem kd_5 (x : Int32) : kd x = 5 ↔ x = 33 := by
  unfold kd
  constructor
  · intro h
    repeat' split at h
    all_goals first | assumption | exact absurd h (by decide)
  · intro h; subst h; decide
theorem kd_6 (x : Int32) : kd x = 6 ↔ x = 35 := by
  unfold kd
  constructor
  · intro h
    repeat' split at h
    all_goals first | assumption | exact absurd h (by decide)
  · intro h; subst h; decide
theorem kd_7 (x : Int32) : kd x = 7 ↔ (48 ≤ x ∧ x ≤ 57) := by
  constructor
  · intro h
    unfold kd at h
    repeat' split at h
    all_goals first | assumption | exact absurd h (by decide)
  · intro h
    unfold kd
    rw [if_neg, if_neg, if_neg, if_neg, if_neg, if_neg, if_pos h]
    all_goals intro q
    all_goals try (subst q; revert h; decide)
    rcases q with q | q | q | q | q | q | q <;> (subst q; revert h; decide)
theorem kd_8 (x : Int32) : kd x = 8 ↔ (97 ≤ x ∧ x ≤ 106) := by
  constructor
  · intro h
    unfold kd at h
    repeat' split at h
    all_goals first | assumption | exact absurd h (by decide)
  · intro h
    have h7 : ¬ (48 ≤ x ∧ x ≤ 57) := fun q => absurd (Int32.le_trans h.1 q.2) (by decide)
    unfold kd
    rw [if_neg, if_neg, if_neg, if_neg, if_neg, if_neg, if_neg h7, if_pos h]
    all_goals intro q
    all_goals try (subst q; revert h; decide)
    rcases q with q | q | q | q | q | q | q <;> (subst q; revert h; decide)
theorem kd_9 (x : Int32) : kd x = 9 ↔ (107 ≤ x ∧ x ≤ 112) := by
  constructor
  · intro h
    unfold kd at h
    repeat' split at h
    all_goals first | assumption | exact absurd h (by decide)
  · intro h
    have h7 : ¬ (48 ≤ x ∧ x ≤ 57) := fun q => absurd (Int32.le_trans h.1 q.2) (by decide)
    have h8 : ¬ (97 ≤ x ∧ x ≤ 106) := fun q => absurd (Int32.le_trans h.1 q.2) (by decide)
    unfold kd
    rw [if_neg, if_neg, if_neg, if_neg, if_neg, if_neg, if_neg h7, if_neg h8, if_pos h]
    all_goals intro q
    all_goals try (subst q; revert h; decide)
    rcases q with q | q | q | q | q | q | q <;> (subst q; revert h; decide)
theorem i_sub_nat {x a : Int32} (h1 : a ≤ x) (h2 : 0 ≤ a) : x - a = nI (x - a).toNatClampNeg ∧ ((x - a).toNatClampNeg : Int) = x.toInt - a.toInt := by
  have e : (x - a).toInt = x.toInt - a.toInt := by
    rw [Int32.toInt_sub, Int32.le_iff_toInt_le] at *
    rw [Int32.toInt_zero] at h2
    have hx := Int32.toInt_lt x
    have hx2 := Int32.le_toInt x
    exact Int.bmod_eq_of_le (by omega) (by omega)
  rw [Int32.le_iff_toInt_le] at h1
  have hn : 0 ≤ (x - a).toInt := by omega
  have h3 : ((x - a).toNatClampNeg : Int) = (x - a).toInt := by
    unfold Int32.toNatClampNeg
    exact Int.toNat_of_nonneg hn
  refine ⟨?_, by rw [h3, e]⟩
  apply Int32.toInt_inj.mp
  have hx := Int32.toInt_lt (x - a)
  rw [nI_toInt (by omega), h3]
/-- which name -/
theorem nm_of {x : Int32} (h : kd x = 8) : nmI x < 10 ∧ x - 97 = nI (nmI x) := by
  rw [kd_8] at h
  obtain ⟨e1, e2⟩ := i_sub_nat h.1 (by decide)
  have h2 := Int32.le_iff_toInt_le.mp h.2
  refine ⟨?_, e1⟩
  have c1 : (97 : Int32).toInt = 97 := by decide
  have c2 : (106 : Int32).toInt = 106 := by decide
  unfold nmI
  omega
theorem lc_of {x : Int32} (h : kd x = 9) : lcI x < 6 ∧ x - 107 = nI (lcI x) := by
  rw [kd_9] at h
  obtain ⟨e1, e2⟩ := i_sub_nat h.1 (by decide)
  have h2 := Int32.le_iff_toInt_le.mp h.2
  refine ⟨?_, e1⟩
  have c1 : (107 : Int32).toInt = 107 := by decide
  have c2 : (112 : Int32).toInt = 112 := by decide
  unfold lcI
  omega
theorem OK_ends (s : Nat → Int32) (n : Nat) : ∀ (d : Nat) (b : Nat → Bool) (k : Nat), OK s n d b k = true → k < EN s d k ∧ EN s d k ≤ n := by
  intro d
  induction d with
  | zero => intro b k h; simp [OK] at h
  | succ d ih =>
    intro b k h
    have hk := OK_k h
    rcases OK_kd h with q | q | q | q | q | q | q | q | q
    · rw [OK_2 s n d b k q] at h
      simp only [Bool.and_eq_true] at h
      rw [EN_2 s d k q]
      have h1 := ih _ _ h.2.1
      have h2 := ih _ _ h.2.2
      omega
    · rw [OK_1 s n d b k q] at h
      simp only [Bool.and_eq_true] at h
      rw [EN_1 s d k q]
      have h1 := ih _ _ h.2
      omega
    · rw [OK_3 s n d b k q] at h
      simp only [Bool.and_eq_true] at h
      rw [EN_3 s d k q]
      have h1 := ih _ _ h.2.1
      have h2 := ih _ _ h.2.2.1
      have h3 := ih _ _ h.2.2.2
      omega
    · rw [OK_4 s n d b k q] at h
      simp only [Bool.and_eq_true] at h
      rw [EN_4 s d k q]
      have h1 := ih _ _ h.2.2.1
      have h2 := ih _ _ h.2.2.2
      omega
    · rw [OK_5 s n d b k q] at h
      simp only [Bool.and_eq_true] at h
      rw [EN_5 s d k q]
      have h1 := ih _ _ h.2.2
      omega
    · rw [OK_6 s n d b k q] at h
      simp only [Bool.and_eq_true] at h
      rw [EN_6 s d k q]
      have h1 := ih _ _ h.2.1
      have h2 := ih _ _ h.2.2.2.1
      have h3 := ih _ _ h.2.2.2.2.2
      omega
    · rw [EN_7 s d k q]; omega
    · rw [EN_8 s d k q]; omega
    · rw [EN_9 s d k q]; omega
/-- ends in another array that is the same there -/
theorem EO_same {s e e' : Nat → Int32} {n : Nat} : ∀ (d : Nat) (b : Nat → Bool) (k : Nat), OK s n d b k = true → (∀ j, k ≤ j → j < EN s d k → e' j = e j) → EO s e d k → EO s e' d k := by
  intro d
  induction d with
  | zero => intro b k h; simp [OK] at h
  | succ d ih =>
    intro b k h hj ho
    have hE := OK_ends s n (d + 1) b k h
    rcases OK_kd h with q | q | q | q | q | q | q | q | q
    · rw [OK_2 s n d b k q] at h
      simp only [Bool.and_eq_true] at h
      rw [EO_2 s e d k q] at ho
      rw [EO_2 s e' d k q, hj k (Nat.le_refl _) hE.1]
      rw [EN_2 s d k q] at hj hE
      have h1 := OK_ends s n _ _ _ h.2.1
      have h2 := OK_ends s n _ _ _ h.2.2
      exact ⟨ho.1, ih _ _ h.2.1 (fun j a b => hj j (by omega) (by omega)) ho.2.1, ih _ _ h.2.2 (fun j a b => hj j (by omega) (by omega)) ho.2.2⟩
    · rw [OK_1 s n d b k q] at h
      simp only [Bool.and_eq_true] at h
      rw [EO_1 s e d k q] at ho
      rw [EO_1 s e' d k q, hj k (Nat.le_refl _) hE.1]
      rw [EN_1 s d k q] at hj hE
      exact ⟨ho.1, ih _ _ h.2 (fun j a b => hj j (by omega) (by omega)) ho.2⟩
    · rw [OK_3 s n d b k q] at h
      simp only [Bool.and_eq_true] at h
      rw [EO_3 s e d k q] at ho
      rw [EO_3 s e' d k q, hj k (Nat.le_refl _) hE.1]
      rw [EN_3 s d k q] at hj hE
      have h1 := OK_ends s n _ _ _ h.2.1
      have h2 := OK_ends s n _ _ _ h.2.2.1
      have h3 := OK_ends s n _ _ _ h.2.2.2
      exact ⟨ho.1, ih _ _ h.2.1 (fun j a b => hj j (by omega) (by omega)) ho.2.1, ih _ _ h.2.2.1 (fun j a b => hj j (by omega) (by omega)) ho.2.2.1, ih _ _ h.2.2.2 (fun j a b => hj j (by omega) (by omega)) ho.2.2.2⟩
    · rw [OK_4 s n d b k q] at h
      simp only [Bool.and_eq_true] at h
      rw [EO_4 s e d k q] at ho
      rw [EO_4 s e' d k q, hj k (Nat.le_refl _) hE.1]
      rw [EN_4 s d k q] at hj hE
      have h1 := OK_ends s n _ _ _ h.2.2.1
      have h2 := OK_ends s n _ _ _ h.2.2.2
      exact ⟨ho.1, ih _ _ h.2.2.1 (fun j a b => hj j (by omega) (by omega)) ho.2.1, ih _ _ h.2.2.2 (fun j a b => hj j (by omega) (by omega)) ho.2.2⟩
    · rw [OK_5 s n d b k q] at h
      simp only [Bool.and_eq_true] at h
      rw [EO_5 s e d k q] at ho
      rw [EO_5 s e' d k q, hj k (Nat.le_refl _) hE.1]
      rw [EN_5 s d k q] at hj hE
      exact ⟨ho.1, ih _ _ h.2.2 (fun j a b => hj j (by omega) (by omega)) ho.2⟩
    · rw [OK_6 s n d b k q] at h
      simp only [Bool.and_eq_true] at h
      rw [EO_6 s e d k q] at ho
      rw [EO_6 s e' d k q, hj k (Nat.le_refl _) hE.1]
      rw [EN_6 s d k q] at hj hE
      have h1 := OK_ends s n _ _ _ h.2.1
      have h2 := OK_ends s n _ _ _ h.2.2.2.1
      have h3 := OK_ends s n _ _ _ h.2.2.2.2.2
      exact ⟨ho.1, ih _ _ h.2.1 (fun j a b => hj j (by omega) (by omega)) ho.2.1, ih _ _ h.2.2.2.1 (fun j a b => hj j (by omega) (by omega)) ho.2.2.1, ih _ _ h.2.2.2.2.2 (fun j a b => hj j (by omega) (by omega)) ho.2.2.2⟩
    · rw [EO_7 s e d k q] at ho
      rw [EO_7 s e' d k q, hj k (Nat.le_refl _) hE.1]
      exact ho
    · rw [EO_8 s e d k q] at ho
      rw [EO_8 s e' d k q, hj k (Nat.le_refl _) hE.1]
      exact ho
    · rw [EO_9 s e d k q] at ho
      rw [EO_9 s e' d k q, hj k (Nat.le_refl _) hE.1]
      exact ho
end
section
/-! THE BOOK'S SIDE: 0 the book, 1 its cells, 2 definers, 3 reached, 4 the evaluator, 5 typed, 6 frames, 7 + c cell c, 17 + c its text, 27 + c its signs, 37 + c its ends, 47 + f frame f, 53 + f its bound values -/
abbrev Gd : Type := va_G × (Nat → Nat) × (Nat → ClassId)
abbrev ga (g : Gd) : Nat → Nat := g.2.1
abbrev gk (g : Gd) : Nat → ClassId := g.2.2
abbrev rfs (f : Nat → Option Nat) : (Nat → Int32) ⊕ (Nat → Int64) ⊕ (Nat → UInt32) ⊕ (Nat → UInt64) ⊕ (Nat → Option Nat) := .inr (.inr (.inr (.inr f)))
/-- a place for a cell: 0 is null, c + 1 is cell c -/
def dcC (g : Gd) (x : Int32) : Option Nat := if x = 0 then none else some (ga g (6 + x.toNatClampNeg))
def dcT (g : Gd) (x : Int32) : Value := if x = 0 then .null else .ref (ga g (16 + x.toNatClampNeg))
def dcV (g : Gd) (x : Int32) : Value := if x = 0 then .null else .ref (ga g 2)
def enB (g : Gd) (i : Nat) (r : Nat → Int32) : va_E :=
  if i = 0 then .inr (0, [.ref (ga g 1), .ref (ga g 2), .ref (ga g 3), .ref (ga g 4), .ref (ga g 5), .int (r 5)])
  else if i = 1 then .inl (gk g 0, 10, rfs (fun j => some (ga g (7 + j))))
  else if i = 2 then .inl (gk g 0, 10, rfs (fun j => dcC g (r j)))
  else if i = 3 then .inl (gk g 1, 10, .inl r)
  else if i = 4 then .inr (4, [.ref (ga g 6), dcV g (r 1), .int (r 2), .int (r 3), .int (r 4)])
  else if i = 5 then .inl (gk g 2, 24, .inl r)
  else if i = 6 then .inl (gk g 3, 6, rfs (fun j => some (ga g (47 + j))))
  else if i < 17 then .inr (1, [.ref (ga g (i + 10)), .int (r 1), .int (r 2), .int (r 3), .int (r 4), .int (r 5), .int (r 6), .int (r 7)])
  else if i < 27 then .inr (2, [.ref (ga g (i + 10)), .ref (ga g (i + 20)), .int (r 2), .int (r 3), .int (r 4), .int (r 5)])
  else if i < 37 then .inl (gk g 2, 24, .inl r)
  else if i < 47 then .inl (gk g 1, 24, .inl r)
  else if i < 53 then .inr (3, [.int (nI (i - 47)), .ref (ga g (i + 6)), dcT g (r 2)])
  else .inl (gk g 1, 6, .inl r)
def clB : List vw_C := [(gC_B, gT_B, 6), (gC_Ce, gT_Ce, 8), (gC_Te, gT_Te, 6), (gC_Fr, gT_Fr, 3), (gC_Ev, gT_Ev, 5)]
def sB (g : Gd) : Sd := (g.1, clB, [(gk g 0, .object gC_Ce), (gk g 1, .int), (gk g 2, .char), (gk g 3, .object gC_Fr)], 59, ga g, enB g, nestB)
theorem sB_N0 (g : Gd) : sN0 (sB g) := nestB_ok
theorem eB_B (g : Gd) (r : Nat → Int32) : sE (sB g) 0 r = .inr (0, [.ref (ga g 1), .ref (ga g 2), .ref (ga g 3), .ref (ga g 4), .ref (ga g 5), .int (r 5)]) := rfl
theorem eB_cells (g : Gd) (r : Nat → Int32) : sE (sB g) 1 r = .inl (gk g 0, 10, rfs (fun j => some (ga g (7 + j)))) := rfl
theorem eB_defs (g : Gd) (r : Nat → Int32) : sE (sB g) 2 r = .inl (gk g 0, 10, rfs (fun j => dcC g (r j))) := rfl
theorem eB_reached (g : Gd) (r : Nat → Int32) : sE (sB g) 3 r = .inl (gk g 1, 10, .inl r) := rfl
theorem eB_Ev (g : Gd) (r : Nat → Int32) : sE (sB g) 4 r = .inr (4, [.ref (ga g 6), dcV g (r 1), .int (r 2), .int (r 3), .int (r 4)]) := rfl
theorem eB_typed (g : Gd) (r : Nat → Int32) : sE (sB g) 5 r = .inl (gk g 2, 24, .inl r) := rfl
theorem eB_frames (g : Gd) (r : Nat → Int32) : sE (sB g) 6 r = .inl (gk g 3, 6, rfs (fun j => some (ga g (47 + j)))) := rfl
theorem eB_Ce (g : Gd) {c : Nat} (hc : c < 10) (r : Nat → Int32) : sE (sB g) (7 + c) r = .inr (1, [.ref (ga g (17 + c)), .int (r 1), .int (r 2), .int (r 3), .int (r 4), .int (r 5), .int (r 6), .int (r 7)]) := by
  show enB g (7 + c) r = _
  unfold enB
  rw [if_neg (show ¬ 7 + c = 0 by omega), if_neg (show ¬ 7 + c = 1 by omega), if_neg (show ¬ 7 + c = 2 by omega), if_neg (show ¬ 7 + c = 3 by omega), if_neg (show ¬ 7 + c = 4 by omega), if_neg (show ¬ 7 + c = 5 by omega), if_neg (show ¬ 7 + c = 6 by omega), if_pos (show 7 + c < 17 by omega)]
  rw [show 7 + c + 10 = 17 + c by omega]
theorem eB_Te (g : Gd) {c : Nat} (hc : c < 10) (r : Nat → Int32) : sE (sB g) (17 + c) r = .inr (2, [.ref (ga g (27 + c)), .ref (ga g (37 + c)), .int (r 2), .int (r 3), .int (r 4), .int (r 5)]) := by
  show enB g (17 + c) r = _
  unfold enB
  rw [if_neg (show ¬ 17 + c = 0 by omega), if_neg (show ¬ 17 + c = 1 by omega), if_neg (show ¬ 17 + c = 2 by omega), if_neg (show ¬ 17 + c = 3 by omega), if_neg (show ¬ 17 + c = 4 by omega), if_neg (show ¬ 17 + c = 5 by omega), if_neg (show ¬ 17 + c = 6 by omega), if_neg (show ¬ 17 + c < 17 by omega), if_pos (show 17 + c < 27 by omega)]
  rw [show 17 + c + 10 = 27 + c by omega, show 17 + c + 20 = 37 + c by omega]
theorem eB_signs (g : Gd) {c : Nat} (hc : c < 10) (r : Nat → Int32) : sE (sB g) (27 + c) r = .inl (gk g 2, 24, .inl r) := by
  show enB g (27 + c) r = _
  unfold enB
  rw [if_neg (show ¬ 27 + c = 0 by omega), if_neg (show ¬ 27 + c = 1 by omega), if_neg (show ¬ 27 + c = 2 by omega), if_neg (show ¬ 27 + c = 3 by omega), if_neg (show ¬ 27 + c = 4 by omega), if_neg (show ¬ 27 + c = 5 by omega), if_neg (show ¬ 27 + c = 6 by omega), if_neg (show ¬ 27 + c < 17 by omega), if_neg (show ¬ 27 + c < 27 by omega), if_pos (show 27 + c < 37 by omega)]
theorem eB_ends (g : Gd) {c : Nat} (hc : c < 10) (r : Nat → Int32) : sE (sB g) (37 + c) r = .inl (gk g 1, 24, .inl r) := by
  show enB g (37 + c) r = _
  unfold enB
  rw [if_neg (show ¬ 37 + c = 0 by omega), if_neg (show ¬ 37 + c = 1 by omega), if_neg (show ¬ 37 + c = 2 by omega), if_neg (show ¬ 37 + c = 3 by omega), if_neg (show ¬ 37 + c = 4 by omega), if_neg (show ¬ 37 + c = 5 by omega), if_neg (show ¬ 37 + c = 6 by omega), if_neg (show ¬ 37 + c < 17 by omega), if_neg (show ¬ 37 + c < 27 by omega), if_neg (show ¬ 37 + c < 37 by omega), if_pos (show 37 + c < 47 by omega)]
theorem eB_Fr (g : Gd) {c : Nat} (hc : c < 6) (r : Nat → Int32) : sE (sB g) (47 + c) r = .inr (3, [.int (nI c), .ref (ga g (53 + c)), dcT g (r 2)]) := by
  show enB g (47 + c) r = _
  unfold enB
  rw [if_neg (show ¬ 47 + c = 0 by omega), if_neg (show ¬ 47 + c = 1 by omega), if_neg (show ¬ 47 + c = 2 by omega), if_neg (show ¬ 47 + c = 3 by omega), if_neg (show ¬ 47 + c = 4 by omega), if_neg (show ¬ 47 + c = 5 by omega), if_neg (show ¬ 47 + c = 6 by omega), if_neg (show ¬ 47 + c < 17 by omega), if_neg (show ¬ 47 + c < 27 by omega), if_neg (show ¬ 47 + c < 37 by omega), if_neg (show ¬ 47 + c < 47 by omega), if_pos (show 47 + c < 53 by omega)]
  rw [show 47 + c + 6 = 53 + c by omega, show 47 + c - 47 = c by omega]
theorem eB_bound (g : Gd) {c : Nat} (hc : c < 6) (r : Nat → Int32) : sE (sB g) (53 + c) r = .inl (gk g 1, 6, .inl r) := by
  show enB g (53 + c) r = _
  unfold enB
  rw [if_neg (show ¬ 53 + c = 0 by omega), if_neg (show ¬ 53 + c = 1 by omega), if_neg (show ¬ 53 + c = 2 by omega), if_neg (show ¬ 53 + c = 3 by omega), if_neg (show ¬ 53 + c = 4 by omega), if_neg (show ¬ 53 + c = 5 by omega), if_neg (show ¬ 53 + c = 6 by omega), if_neg (show ¬ 53 + c < 17 by omega), if_neg (show ¬ 53 + c < 27 by omega), if_neg (show ¬ 53 + c < 37 by omega), if_neg (show ¬ 53 + c < 47 by omega), if_neg (show ¬ 53 + c < 53 by omega)]
theorem dcC_c (g : Gd) {c : Nat} (hc : c < 10) : dcC g (nI (c + 1)) = some (ga g (7 + c)) := by
  unfold dcC
  rw [if_neg (nI_ne0 (by omega) (by omega)), nI_clamp (by omega), show 6 + (c + 1) = 7 + c by omega]
theorem dcC_0 (g : Gd) : dcC g 0 = none := if_pos rfl
theorem dcT_c (g : Gd) {c : Nat} (hc : c < 10) : dcT g (nI (c + 1)) = .ref (ga g (17 + c)) := by
  unfold dcT
  rw [if_neg (nI_ne0 (by omega) (by omega)), nI_clamp (by omega), show 16 + (c + 1) = 17 + c by omega]
theorem dcC_up (g : Gd) {c : Nat} (hc : c < 10) (r : Nat → Int32) (j : Nat) : (fun q => dcC g (upd r j (nI (c + 1)) q)) = va_up (fun q => dcC g (r q)) j (some (ga g (7 + c))) := by
  funext q
  unfold upd va_up
  by_cases hq : q = j
  · rw [if_pos hq, if_pos hq, dcC_c g hc]
  · rw [if_neg hq, if_neg hq]
theorem dcC_up0 (g : Gd) (r : Nat → Int32) (j : Nat) : (fun q => dcC g (upd r j 0 q)) = va_up (fun q => dcC g (r q)) j none := by
  funext q
  unfold upd va_up
  by_cases hq : q = j
  · rw [if_pos hq, if_pos hq, dcC_0]
  · rw [if_neg hq, if_neg hq]
section BR
variable {g : Gd} {K : Cf} {own : String} {h : Nat} {M : Me} {cc : ByteArray} {pc ix : Nat} {lv : List (Nat × Value)} {rest : List Value}
theorem g_B_cells (h0 : C0 K cc) (hC : Cx (sB g) K own h) (hl : Cond.fieldLink own ix (gT_B 0).1 (gT_B 0).2.1 (gT_B 0).2.2.1 ∈ wG) (hdg : decode cc pc = .ok (.getfield ix, 3)) (kk : V K (wp (sB g)) M (pc + 3) lv (.ref (ga g 1) :: rest)) : V K (wp (sB g)) M pc lv (.ref (ga g 0) :: rest) := v_get h0 hC gW_B 0 (show 0 < 59 by decide) (eB_B g _) rfl 0 (by decide) hl rfl hdg kk
theorem g_B_definers (h0 : C0 K cc) (hC : Cx (sB g) K own h) (hl : Cond.fieldLink own ix (gT_B 1).1 (gT_B 1).2.1 (gT_B 1).2.2.1 ∈ wG) (hdg : decode cc pc = .ok (.getfield ix, 3)) (kk : V K (wp (sB g)) M (pc + 3) lv (.ref (ga g 2) :: rest)) : V K (wp (sB g)) M pc lv (.ref (ga g 0) :: rest) := v_get h0 hC gW_B 0 (show 0 < 59 by decide) (eB_B g _) rfl 1 (by decide) hl rfl hdg kk
theorem g_B_reached (h0 : C0 K cc) (hC : Cx (sB g) K own h) (hl : Cond.fieldLink own ix (gT_B 2).1 (gT_B 2).2.1 (gT_B 2).2.2.1 ∈ wG) (hdg : decode cc pc = .ok (.getfield ix, 3)) (kk : V K (wp (sB g)) M (pc + 3) lv (.ref (ga g 3) :: rest)) : V K (wp (sB g)) M pc lv (.ref (ga g 0) :: rest) := v_get h0 hC gW_B 0 (show 0 < 59 by decide) (eB_B g _) rfl 2 (by decide) hl rfl hdg kk
theorem g_B_evaluator (h0 : C0 K cc) (hC : Cx (sB g) K own h) (hl : Cond.fieldLink own ix (gT_B 3).1 (gT_B 3).2.1 (gT_B 3).2.2.1 ∈ wG) (hdg : decode cc pc = .ok (.getfield ix, 3)) (kk : V K (wp (sB g)) M (pc + 3) lv (.ref (ga g 4) :: rest)) : V K (wp (sB g)) M pc lv (.ref (ga g 0) :: rest) := v_get h0 hC gW_B 0 (show 0 < 59 by decide) (eB_B g _) rfl 3 (by decide) hl rfl hdg kk
theorem g_B_typed (h0 : C0 K cc) (hC : Cx (sB g) K own h) (hl : Cond.fieldLink own ix (gT_B 4).1 (gT_B 4).2.1 (gT_B 4).2.2.1 ∈ wG) (hdg : decode cc pc = .ok (.getfield ix, 3)) (kk : V K (wp (sB g)) M (pc + 3) lv (.ref (ga g 5) :: rest)) : V K (wp (sB g)) M pc lv (.ref (ga g 0) :: rest) := v_get h0 hC gW_B 0 (show 0 < 59 by decide) (eB_B g _) rfl 4 (by decide) hl rfl hdg kk
theorem g_B_typedLength (h0 : C0 K cc) (hC : Cx (sB g) K own h) (hl : Cond.fieldLink own ix (gT_B 5).1 (gT_B 5).2.1 (gT_B 5).2.2.1 ∈ wG) (hdg : decode cc pc = .ok (.getfield ix, 3)) (kk : V K (wp (sB g)) M (pc + 3) lv (.int (M 0 5) :: rest)) : V K (wp (sB g)) M pc lv (.ref (ga g 0) :: rest) := v_get h0 hC gW_B 0 (show 0 < 59 by decide) (eB_B g _) rfl 5 (by decide) hl rfl hdg kk
theorem p_B_typedLength (h0 : C0 K cc) (hC : Cx (sB g) K own h) {x : Int32} (hl : Cond.fieldLink own ix (gT_B 5).1 (gT_B 5).2.1 (gT_B 5).2.2.1 ∈ wG) (hdg : decode cc pc = .ok (.putfield ix, 3)) (kk : V K (wp (sB g)) (up2 M 0 5 x) (pc + 3) lv rest) : V K (wp (sB g)) M pc lv (.int x :: .ref (ga g 0) :: rest) := v_put h0 hC gW_B gU_B gO_B gN_B 0 (show 0 < 59 by decide) (eB_B g _) rfl 5 (by decide) hl rfl rfl rfl (Nat.le_of_ble_eq_true rfl) _ (by rw [eB_B g]; rfl) hdg kk
theorem g_Ce_text (h0 : C0 K cc) (hC : Cx (sB g) K own h) {c : Nat} (hc : c < 10) (hl : Cond.fieldLink own ix (gT_Ce 0).1 (gT_Ce 0).2.1 (gT_Ce 0).2.2.1 ∈ wG) (hdg : decode cc pc = .ok (.getfield ix, 3)) (kk : V K (wp (sB g)) M (pc + 3) lv (.ref (ga g (17 + c)) :: rest)) : V K (wp (sB g)) M pc lv (.ref (ga g (7 + c)) :: rest) := v_get h0 hC gW_Ce (7 + c) (show 7 + c < 59 by omega) (eB_Ce g hc _) rfl 0 (by decide) hl rfl hdg kk
theorem gN_Ce_text (h0 : C0 K cc) (hC : Cx (sB g) K own h) {c : Nat} (hc : c < 10) (hl : Cond.fieldLinkNest own ix (gT_Ce 0).1 (gT_Ce 0).2.1 (gT_Ce 0).2.2.1 gC_B ∈ nestB) (hdg : decode cc pc = .ok (.getfield ix, 3)) (kk : V K (wp (sB g)) M (pc + 3) lv (.ref (ga g (17 + c)) :: rest)) : V K (wp (sB g)) M pc lv (.ref (ga g (7 + c)) :: rest) := v_getN h0 hC gW_Ce (7 + c) (show 7 + c < 59 by omega) (eB_Ce g hc _) rfl 0 (by decide) hl rfl hdg kk
theorem g_Ce_name (h0 : C0 K cc) (hC : Cx (sB g) K own h) {c : Nat} (hc : c < 10) (hl : Cond.fieldLink own ix (gT_Ce 1).1 (gT_Ce 1).2.1 (gT_Ce 1).2.2.1 ∈ wG) (hdg : decode cc pc = .ok (.getfield ix, 3)) (kk : V K (wp (sB g)) M (pc + 3) lv (.int (M (7 + c) 1) :: rest)) : V K (wp (sB g)) M pc lv (.ref (ga g (7 + c)) :: rest) := v_get h0 hC gW_Ce (7 + c) (show 7 + c < 59 by omega) (eB_Ce g hc _) rfl 1 (by decide) hl rfl hdg kk
theorem p_Ce_name (h0 : C0 K cc) (hC : Cx (sB g) K own h) {c : Nat} (hc : c < 10) {x : Int32} (hl : Cond.fieldLink own ix (gT_Ce 1).1 (gT_Ce 1).2.1 (gT_Ce 1).2.2.1 ∈ wG) (hdg : decode cc pc = .ok (.putfield ix, 3)) (kk : V K (wp (sB g)) (up2 M (7 + c) 1 x) (pc + 3) lv rest) : V K (wp (sB g)) M pc lv (.int x :: .ref (ga g (7 + c)) :: rest) := v_put h0 hC gW_Ce gU_Ce gO_Ce gN_Ce (7 + c) (show 7 + c < 59 by omega) (eB_Ce g hc _) rfl 1 (by decide) hl rfl rfl rfl (Nat.le_of_ble_eq_true rfl) _ (by rw [eB_Ce g hc]; rfl) hdg kk
theorem gN_Ce_name (h0 : C0 K cc) (hC : Cx (sB g) K own h) {c : Nat} (hc : c < 10) (hl : Cond.fieldLinkNest own ix (gT_Ce 1).1 (gT_Ce 1).2.1 (gT_Ce 1).2.2.1 gC_B ∈ nestB) (hdg : decode cc pc = .ok (.getfield ix, 3)) (kk : V K (wp (sB g)) M (pc + 3) lv (.int (M (7 + c) 1) :: rest)) : V K (wp (sB g)) M pc lv (.ref (ga g (7 + c)) :: rest) := v_getN h0 hC gW_Ce (7 + c) (show 7 + c < 59 by omega) (eB_Ce g hc _) rfl 1 (by decide) hl rfl hdg kk
theorem pN_Ce_name (h0 : C0 K cc) (hC : Cx (sB g) K own h) {c : Nat} (hc : c < 10) {x : Int32} (hl : Cond.fieldLinkNest own ix (gT_Ce 1).1 (gT_Ce 1).2.1 (gT_Ce 1).2.2.1 gC_B ∈ nestB) (hdg : decode cc pc = .ok (.putfield ix, 3)) (kk : V K (wp (sB g)) (up2 M (7 + c) 1 x) (pc + 3) lv rest) : V K (wp (sB g)) M pc lv (.int x :: .ref (ga g (7 + c)) :: rest) := v_putN h0 hC gW_Ce gU_Ce gO_Ce gN_Ce (7 + c) (show 7 + c < 59 by omega) (eB_Ce g hc _) rfl 1 (by decide) hl rfl rfl rfl (Nat.le_of_ble_eq_true rfl) _ (by rw [eB_Ce g hc]; rfl) hdg kk
theorem g_Ce_fault (h0 : C0 K cc) (hC : Cx (sB g) K own h) {c : Nat} (hc : c < 10) (hl : Cond.fieldLink own ix (gT_Ce 2).1 (gT_Ce 2).2.1 (gT_Ce 2).2.2.1 ∈ wG) (hdg : decode cc pc = .ok (.getfield ix, 3)) (kk : V K (wp (sB g)) M (pc + 3) lv (.int (M (7 + c) 2) :: rest)) : V K (wp (sB g)) M pc lv (.ref (ga g (7 + c)) :: rest) := v_get h0 hC gW_Ce (7 + c) (show 7 + c < 59 by omega) (eB_Ce g hc _) rfl 2 (by decide) hl rfl hdg kk
theorem p_Ce_fault (h0 : C0 K cc) (hC : Cx (sB g) K own h) {c : Nat} (hc : c < 10) {x : Int32} (hl : Cond.fieldLink own ix (gT_Ce 2).1 (gT_Ce 2).2.1 (gT_Ce 2).2.2.1 ∈ wG) (hdg : decode cc pc = .ok (.putfield ix, 3)) (kk : V K (wp (sB g)) (up2 M (7 + c) 2 x) (pc + 3) lv rest) : V K (wp (sB g)) M pc lv (.int x :: .ref (ga g (7 + c)) :: rest) := v_put h0 hC gW_Ce gU_Ce gO_Ce gN_Ce (7 + c) (show 7 + c < 59 by omega) (eB_Ce g hc _) rfl 2 (by decide) hl rfl rfl rfl (Nat.le_of_ble_eq_true rfl) _ (by rw [eB_Ce g hc]; rfl) hdg kk
theorem gN_Ce_fault (h0 : C0 K cc) (hC : Cx (sB g) K own h) {c : Nat} (hc : c < 10) (hl : Cond.fieldLinkNest own ix (gT_Ce 2).1 (gT_Ce 2).2.1 (gT_Ce 2).2.2.1 gC_B ∈ nestB) (hdg : decode cc pc = .ok (.getfield ix, 3)) (kk : V K (wp (sB g)) M (pc + 3) lv (.int (M (7 + c) 2) :: rest)) : V K (wp (sB g)) M pc lv (.ref (ga g (7 + c)) :: rest) := v_getN h0 hC gW_Ce (7 + c) (show 7 + c < 59 by omega) (eB_Ce g hc _) rfl 2 (by decide) hl rfl hdg kk
theorem pN_Ce_fault (h0 : C0 K cc) (hC : Cx (sB g) K own h) {c : Nat} (hc : c < 10) {x : Int32} (hl : Cond.fieldLinkNest own ix (gT_Ce 2).1 (gT_Ce 2).2.1 (gT_Ce 2).2.2.1 gC_B ∈ nestB) (hdg : decode cc pc = .ok (.putfield ix, 3)) (kk : V K (wp (sB g)) (up2 M (7 + c) 2 x) (pc + 3) lv rest) : V K (wp (sB g)) M pc lv (.int x :: .ref (ga g (7 + c)) :: rest) := v_putN h0 hC gW_Ce gU_Ce gO_Ce gN_Ce (7 + c) (show 7 + c < 59 by omega) (eB_Ce g hc _) rfl 2 (by decide) hl rfl rfl rfl (Nat.le_of_ble_eq_true rfl) _ (by rw [eB_Ce g hc]; rfl) hdg kk
theorem g_Ce_stale (h0 : C0 K cc) (hC : Cx (sB g) K own h) {c : Nat} (hc : c < 10) (hl : Cond.fieldLink own ix (gT_Ce 3).1 (gT_Ce 3).2.1 (gT_Ce 3).2.2.1 ∈ wG) (hdg : decode cc pc = .ok (.getfield ix, 3)) (kk : V K (wp (sB g)) M (pc + 3) lv (.int (M (7 + c) 3) :: rest)) : V K (wp (sB g)) M pc lv (.ref (ga g (7 + c)) :: rest) := v_get h0 hC gW_Ce (7 + c) (show 7 + c < 59 by omega) (eB_Ce g hc _) rfl 3 (by decide) hl rfl hdg kk
theorem p_Ce_stale (h0 : C0 K cc) (hC : Cx (sB g) K own h) {c : Nat} (hc : c < 10) {x : Int32} (hx : x = 0 ∨ x = 1) (hl : Cond.fieldLink own ix (gT_Ce 3).1 (gT_Ce 3).2.1 (gT_Ce 3).2.2.1 ∈ wG) (hdg : decode cc pc = .ok (.putfield ix, 3)) (kk : V K (wp (sB g)) (up2 M (7 + c) 3 x) (pc + 3) lv rest) : V K (wp (sB g)) M pc lv (.int x :: .ref (ga g (7 + c)) :: rest) := v_put h0 hC gW_Ce gU_Ce gO_Ce gN_Ce (7 + c) (show 7 + c < 59 by omega) (eB_Ce g hc _) rfl 3 (by decide) hl rfl (by rcases hx with rfl | rfl <;> rfl) (by rcases hx with rfl | rfl <;> rfl) (Nat.le_of_ble_eq_true rfl) _ (by rw [eB_Ce g hc]; rfl) hdg kk
theorem gN_Ce_stale (h0 : C0 K cc) (hC : Cx (sB g) K own h) {c : Nat} (hc : c < 10) (hl : Cond.fieldLinkNest own ix (gT_Ce 3).1 (gT_Ce 3).2.1 (gT_Ce 3).2.2.1 gC_B ∈ nestB) (hdg : decode cc pc = .ok (.getfield ix, 3)) (kk : V K (wp (sB g)) M (pc + 3) lv (.int (M (7 + c) 3) :: rest)) : V K (wp (sB g)) M pc lv (.ref (ga g (7 + c)) :: rest) := v_getN h0 hC gW_Ce (7 + c) (show 7 + c < 59 by omega) (eB_Ce g hc _) rfl 3 (by decide) hl rfl hdg kk
theorem pN_Ce_stale (h0 : C0 K cc) (hC : Cx (sB g) K own h) {c : Nat} (hc : c < 10) {x : Int32} (hx : x = 0 ∨ x = 1) (hl : Cond.fieldLinkNest own ix (gT_Ce 3).1 (gT_Ce 3).2.1 (gT_Ce 3).2.2.1 gC_B ∈ nestB) (hdg : decode cc pc = .ok (.putfield ix, 3)) (kk : V K (wp (sB g)) (up2 M (7 + c) 3 x) (pc + 3) lv rest) : V K (wp (sB g)) M pc lv (.int x :: .ref (ga g (7 + c)) :: rest) := v_putN h0 hC gW_Ce gU_Ce gO_Ce gN_Ce (7 + c) (show 7 + c < 59 by omega) (eB_Ce g hc _) rfl 3 (by decide) hl rfl (by rcases hx with rfl | rfl <;> rfl) (by rcases hx with rfl | rfl <;> rfl) (Nat.le_of_ble_eq_true rfl) _ (by rw [eB_Ce g hc]; rfl) hdg kk
theorem g_Ce_result (h0 : C0 K cc) (hC : Cx (sB g) K own h) {c : Nat} (hc : c < 10) (hl : Cond.fieldLink own ix (gT_Ce 4).1 (gT_Ce 4).2.1 (gT_Ce 4).2.2.1 ∈ wG) (hdg : decode cc pc = .ok (.getfield ix, 3)) (kk : V K (wp (sB g)) M (pc + 3) lv (.int (M (7 + c) 4) :: rest)) : V K (wp (sB g)) M pc lv (.ref (ga g (7 + c)) :: rest) := v_get h0 hC gW_Ce (7 + c) (show 7 + c < 59 by omega) (eB_Ce g hc _) rfl 4 (by decide) hl rfl hdg kk
theorem p_Ce_result (h0 : C0 K cc) (hC : Cx (sB g) K own h) {c : Nat} (hc : c < 10) {x : Int32} (hl : Cond.fieldLink own ix (gT_Ce 4).1 (gT_Ce 4).2.1 (gT_Ce 4).2.2.1 ∈ wG) (hdg : decode cc pc = .ok (.putfield ix, 3)) (kk : V K (wp (sB g)) (up2 M (7 + c) 4 x) (pc + 3) lv rest) : V K (wp (sB g)) M pc lv (.int x :: .ref (ga g (7 + c)) :: rest) := v_put h0 hC gW_Ce gU_Ce gO_Ce gN_Ce (7 + c) (show 7 + c < 59 by omega) (eB_Ce g hc _) rfl 4 (by decide) hl rfl rfl rfl (Nat.le_of_ble_eq_true rfl) _ (by rw [eB_Ce g hc]; rfl) hdg kk
theorem gN_Ce_result (h0 : C0 K cc) (hC : Cx (sB g) K own h) {c : Nat} (hc : c < 10) (hl : Cond.fieldLinkNest own ix (gT_Ce 4).1 (gT_Ce 4).2.1 (gT_Ce 4).2.2.1 gC_B ∈ nestB) (hdg : decode cc pc = .ok (.getfield ix, 3)) (kk : V K (wp (sB g)) M (pc + 3) lv (.int (M (7 + c) 4) :: rest)) : V K (wp (sB g)) M pc lv (.ref (ga g (7 + c)) :: rest) := v_getN h0 hC gW_Ce (7 + c) (show 7 + c < 59 by omega) (eB_Ce g hc _) rfl 4 (by decide) hl rfl hdg kk
theorem pN_Ce_result (h0 : C0 K cc) (hC : Cx (sB g) K own h) {c : Nat} (hc : c < 10) {x : Int32} (hl : Cond.fieldLinkNest own ix (gT_Ce 4).1 (gT_Ce 4).2.1 (gT_Ce 4).2.2.1 gC_B ∈ nestB) (hdg : decode cc pc = .ok (.putfield ix, 3)) (kk : V K (wp (sB g)) (up2 M (7 + c) 4 x) (pc + 3) lv rest) : V K (wp (sB g)) M pc lv (.int x :: .ref (ga g (7 + c)) :: rest) := v_putN h0 hC gW_Ce gU_Ce gO_Ce gN_Ce (7 + c) (show 7 + c < 59 by omega) (eB_Ce g hc _) rfl 4 (by decide) hl rfl rfl rfl (Nat.le_of_ble_eq_true rfl) _ (by rw [eB_Ce g hc]; rfl) hdg kk
theorem g_Ce_amount (h0 : C0 K cc) (hC : Cx (sB g) K own h) {c : Nat} (hc : c < 10) (hl : Cond.fieldLink own ix (gT_Ce 5).1 (gT_Ce 5).2.1 (gT_Ce 5).2.2.1 ∈ wG) (hdg : decode cc pc = .ok (.getfield ix, 3)) (kk : V K (wp (sB g)) M (pc + 3) lv (.int (M (7 + c) 5) :: rest)) : V K (wp (sB g)) M pc lv (.ref (ga g (7 + c)) :: rest) := v_get h0 hC gW_Ce (7 + c) (show 7 + c < 59 by omega) (eB_Ce g hc _) rfl 5 (by decide) hl rfl hdg kk
theorem p_Ce_amount (h0 : C0 K cc) (hC : Cx (sB g) K own h) {c : Nat} (hc : c < 10) {x : Int32} (hl : Cond.fieldLink own ix (gT_Ce 5).1 (gT_Ce 5).2.1 (gT_Ce 5).2.2.1 ∈ wG) (hdg : decode cc pc = .ok (.putfield ix, 3)) (kk : V K (wp (sB g)) (up2 M (7 + c) 5 x) (pc + 3) lv rest) : V K (wp (sB g)) M pc lv (.int x :: .ref (ga g (7 + c)) :: rest) := v_put h0 hC gW_Ce gU_Ce gO_Ce gN_Ce (7 + c) (show 7 + c < 59 by omega) (eB_Ce g hc _) rfl 5 (by decide) hl rfl rfl rfl (Nat.le_of_ble_eq_true rfl) _ (by rw [eB_Ce g hc]; rfl) hdg kk
theorem gN_Ce_amount (h0 : C0 K cc) (hC : Cx (sB g) K own h) {c : Nat} (hc : c < 10) (hl : Cond.fieldLinkNest own ix (gT_Ce 5).1 (gT_Ce 5).2.1 (gT_Ce 5).2.2.1 gC_B ∈ nestB) (hdg : decode cc pc = .ok (.getfield ix, 3)) (kk : V K (wp (sB g)) M (pc + 3) lv (.int (M (7 + c) 5) :: rest)) : V K (wp (sB g)) M pc lv (.ref (ga g (7 + c)) :: rest) := v_getN h0 hC gW_Ce (7 + c) (show 7 + c < 59 by omega) (eB_Ce g hc _) rfl 5 (by decide) hl rfl hdg kk
theorem pN_Ce_amount (h0 : C0 K cc) (hC : Cx (sB g) K own h) {c : Nat} (hc : c < 10) {x : Int32} (hl : Cond.fieldLinkNest own ix (gT_Ce 5).1 (gT_Ce 5).2.1 (gT_Ce 5).2.2.1 gC_B ∈ nestB) (hdg : decode cc pc = .ok (.putfield ix, 3)) (kk : V K (wp (sB g)) (up2 M (7 + c) 5 x) (pc + 3) lv rest) : V K (wp (sB g)) M pc lv (.int x :: .ref (ga g (7 + c)) :: rest) := v_putN h0 hC gW_Ce gU_Ce gO_Ce gN_Ce (7 + c) (show 7 + c < 59 by omega) (eB_Ce g hc _) rfl 5 (by decide) hl rfl rfl rfl (Nat.le_of_ble_eq_true rfl) _ (by rw [eB_Ce g hc]; rfl) hdg kk
theorem g_Ce_sort (h0 : C0 K cc) (hC : Cx (sB g) K own h) {c : Nat} (hc : c < 10) (hl : Cond.fieldLink own ix (gT_Ce 6).1 (gT_Ce 6).2.1 (gT_Ce 6).2.2.1 ∈ wG) (hdg : decode cc pc = .ok (.getfield ix, 3)) (kk : V K (wp (sB g)) M (pc + 3) lv (.int (M (7 + c) 6) :: rest)) : V K (wp (sB g)) M pc lv (.ref (ga g (7 + c)) :: rest) := v_get h0 hC gW_Ce (7 + c) (show 7 + c < 59 by omega) (eB_Ce g hc _) rfl 6 (by decide) hl rfl hdg kk
theorem p_Ce_sort (h0 : C0 K cc) (hC : Cx (sB g) K own h) {c : Nat} (hc : c < 10) {x : Int32} (hl : Cond.fieldLink own ix (gT_Ce 6).1 (gT_Ce 6).2.1 (gT_Ce 6).2.2.1 ∈ wG) (hdg : decode cc pc = .ok (.putfield ix, 3)) (kk : V K (wp (sB g)) (up2 M (7 + c) 6 x) (pc + 3) lv rest) : V K (wp (sB g)) M pc lv (.int x :: .ref (ga g (7 + c)) :: rest) := v_put h0 hC gW_Ce gU_Ce gO_Ce gN_Ce (7 + c) (show 7 + c < 59 by omega) (eB_Ce g hc _) rfl 6 (by decide) hl rfl rfl rfl (Nat.le_of_ble_eq_true rfl) _ (by rw [eB_Ce g hc]; rfl) hdg kk
theorem gN_Ce_sort (h0 : C0 K cc) (hC : Cx (sB g) K own h) {c : Nat} (hc : c < 10) (hl : Cond.fieldLinkNest own ix (gT_Ce 6).1 (gT_Ce 6).2.1 (gT_Ce 6).2.2.1 gC_B ∈ nestB) (hdg : decode cc pc = .ok (.getfield ix, 3)) (kk : V K (wp (sB g)) M (pc + 3) lv (.int (M (7 + c) 6) :: rest)) : V K (wp (sB g)) M pc lv (.ref (ga g (7 + c)) :: rest) := v_getN h0 hC gW_Ce (7 + c) (show 7 + c < 59 by omega) (eB_Ce g hc _) rfl 6 (by decide) hl rfl hdg kk
theorem pN_Ce_sort (h0 : C0 K cc) (hC : Cx (sB g) K own h) {c : Nat} (hc : c < 10) {x : Int32} (hl : Cond.fieldLinkNest own ix (gT_Ce 6).1 (gT_Ce 6).2.1 (gT_Ce 6).2.2.1 gC_B ∈ nestB) (hdg : decode cc pc = .ok (.putfield ix, 3)) (kk : V K (wp (sB g)) (up2 M (7 + c) 6 x) (pc + 3) lv rest) : V K (wp (sB g)) M pc lv (.int x :: .ref (ga g (7 + c)) :: rest) := v_putN h0 hC gW_Ce gU_Ce gO_Ce gN_Ce (7 + c) (show 7 + c < 59 by omega) (eB_Ce g hc _) rfl 6 (by decide) hl rfl rfl rfl (Nat.le_of_ble_eq_true rfl) _ (by rw [eB_Ce g hc]; rfl) hdg kk
theorem g_Ce_runCount (h0 : C0 K cc) (hC : Cx (sB g) K own h) {c : Nat} (hc : c < 10) (hl : Cond.fieldLink own ix (gT_Ce 7).1 (gT_Ce 7).2.1 (gT_Ce 7).2.2.1 ∈ wG) (hdg : decode cc pc = .ok (.getfield ix, 3)) (kk : V K (wp (sB g)) M (pc + 3) lv (.int (M (7 + c) 7) :: rest)) : V K (wp (sB g)) M pc lv (.ref (ga g (7 + c)) :: rest) := v_get h0 hC gW_Ce (7 + c) (show 7 + c < 59 by omega) (eB_Ce g hc _) rfl 7 (by decide) hl rfl hdg kk
theorem p_Ce_runCount (h0 : C0 K cc) (hC : Cx (sB g) K own h) {c : Nat} (hc : c < 10) {x : Int32} (hl : Cond.fieldLink own ix (gT_Ce 7).1 (gT_Ce 7).2.1 (gT_Ce 7).2.2.1 ∈ wG) (hdg : decode cc pc = .ok (.putfield ix, 3)) (kk : V K (wp (sB g)) (up2 M (7 + c) 7 x) (pc + 3) lv rest) : V K (wp (sB g)) M pc lv (.int x :: .ref (ga g (7 + c)) :: rest) := v_put h0 hC gW_Ce gU_Ce gO_Ce gN_Ce (7 + c) (show 7 + c < 59 by omega) (eB_Ce g hc _) rfl 7 (by decide) hl rfl rfl rfl (Nat.le_of_ble_eq_true rfl) _ (by rw [eB_Ce g hc]; rfl) hdg kk
theorem gN_Ce_runCount (h0 : C0 K cc) (hC : Cx (sB g) K own h) {c : Nat} (hc : c < 10) (hl : Cond.fieldLinkNest own ix (gT_Ce 7).1 (gT_Ce 7).2.1 (gT_Ce 7).2.2.1 gC_B ∈ nestB) (hdg : decode cc pc = .ok (.getfield ix, 3)) (kk : V K (wp (sB g)) M (pc + 3) lv (.int (M (7 + c) 7) :: rest)) : V K (wp (sB g)) M pc lv (.ref (ga g (7 + c)) :: rest) := v_getN h0 hC gW_Ce (7 + c) (show 7 + c < 59 by omega) (eB_Ce g hc _) rfl 7 (by decide) hl rfl hdg kk
theorem pN_Ce_runCount (h0 : C0 K cc) (hC : Cx (sB g) K own h) {c : Nat} (hc : c < 10) {x : Int32} (hl : Cond.fieldLinkNest own ix (gT_Ce 7).1 (gT_Ce 7).2.1 (gT_Ce 7).2.2.1 gC_B ∈ nestB) (hdg : decode cc pc = .ok (.putfield ix, 3)) (kk : V K (wp (sB g)) (up2 M (7 + c) 7 x) (pc + 3) lv rest) : V K (wp (sB g)) M pc lv (.int x :: .ref (ga g (7 + c)) :: rest) := v_putN h0 hC gW_Ce gU_Ce gO_Ce gN_Ce (7 + c) (show 7 + c < 59 by omega) (eB_Ce g hc _) rfl 7 (by decide) hl rfl rfl rfl (Nat.le_of_ble_eq_true rfl) _ (by rw [eB_Ce g hc]; rfl) hdg kk
theorem g_Te_signs (h0 : C0 K cc) (hC : Cx (sB g) K own h) {c : Nat} (hc : c < 10) (hl : Cond.fieldLink own ix (gT_Te 0).1 (gT_Te 0).2.1 (gT_Te 0).2.2.1 ∈ wG) (hdg : decode cc pc = .ok (.getfield ix, 3)) (kk : V K (wp (sB g)) M (pc + 3) lv (.ref (ga g (27 + c)) :: rest)) : V K (wp (sB g)) M pc lv (.ref (ga g (17 + c)) :: rest) := v_get h0 hC gW_Te (17 + c) (show 17 + c < 59 by omega) (eB_Te g hc _) rfl 0 (by decide) hl rfl hdg kk
theorem g_Te_ends (h0 : C0 K cc) (hC : Cx (sB g) K own h) {c : Nat} (hc : c < 10) (hl : Cond.fieldLink own ix (gT_Te 1).1 (gT_Te 1).2.1 (gT_Te 1).2.2.1 ∈ wG) (hdg : decode cc pc = .ok (.getfield ix, 3)) (kk : V K (wp (sB g)) M (pc + 3) lv (.ref (ga g (37 + c)) :: rest)) : V K (wp (sB g)) M pc lv (.ref (ga g (17 + c)) :: rest) := v_get h0 hC gW_Te (17 + c) (show 17 + c < 59 by omega) (eB_Te g hc _) rfl 1 (by decide) hl rfl hdg kk
theorem g_Te_length (h0 : C0 K cc) (hC : Cx (sB g) K own h) {c : Nat} (hc : c < 10) (hl : Cond.fieldLink own ix (gT_Te 2).1 (gT_Te 2).2.1 (gT_Te 2).2.2.1 ∈ wG) (hdg : decode cc pc = .ok (.getfield ix, 3)) (kk : V K (wp (sB g)) M (pc + 3) lv (.int (M (17 + c) 2) :: rest)) : V K (wp (sB g)) M pc lv (.ref (ga g (17 + c)) :: rest) := v_get h0 hC gW_Te (17 + c) (show 17 + c < 59 by omega) (eB_Te g hc _) rfl 2 (by decide) hl rfl hdg kk
theorem p_Te_length (h0 : C0 K cc) (hC : Cx (sB g) K own h) {c : Nat} (hc : c < 10) {x : Int32} (hl : Cond.fieldLink own ix (gT_Te 2).1 (gT_Te 2).2.1 (gT_Te 2).2.2.1 ∈ wG) (hdg : decode cc pc = .ok (.putfield ix, 3)) (kk : V K (wp (sB g)) (up2 M (17 + c) 2 x) (pc + 3) lv rest) : V K (wp (sB g)) M pc lv (.int x :: .ref (ga g (17 + c)) :: rest) := v_put h0 hC gW_Te gU_Te gO_Te gN_Te (17 + c) (show 17 + c < 59 by omega) (eB_Te g hc _) rfl 2 (by decide) hl rfl rfl rfl (Nat.le_of_ble_eq_true rfl) _ (by rw [eB_Te g hc]; rfl) hdg kk
theorem g_Te_start (h0 : C0 K cc) (hC : Cx (sB g) K own h) {c : Nat} (hc : c < 10) (hl : Cond.fieldLink own ix (gT_Te 3).1 (gT_Te 3).2.1 (gT_Te 3).2.2.1 ∈ wG) (hdg : decode cc pc = .ok (.getfield ix, 3)) (kk : V K (wp (sB g)) M (pc + 3) lv (.int (M (17 + c) 3) :: rest)) : V K (wp (sB g)) M pc lv (.ref (ga g (17 + c)) :: rest) := v_get h0 hC gW_Te (17 + c) (show 17 + c < 59 by omega) (eB_Te g hc _) rfl 3 (by decide) hl rfl hdg kk
theorem p_Te_start (h0 : C0 K cc) (hC : Cx (sB g) K own h) {c : Nat} (hc : c < 10) {x : Int32} (hl : Cond.fieldLink own ix (gT_Te 3).1 (gT_Te 3).2.1 (gT_Te 3).2.2.1 ∈ wG) (hdg : decode cc pc = .ok (.putfield ix, 3)) (kk : V K (wp (sB g)) (up2 M (17 + c) 3 x) (pc + 3) lv rest) : V K (wp (sB g)) M pc lv (.int x :: .ref (ga g (17 + c)) :: rest) := v_put h0 hC gW_Te gU_Te gO_Te gN_Te (17 + c) (show 17 + c < 59 by omega) (eB_Te g hc _) rfl 3 (by decide) hl rfl rfl rfl (Nat.le_of_ble_eq_true rfl) _ (by rw [eB_Te g hc]; rfl) hdg kk
theorem gN_Te_start (h0 : C0 K cc) (hC : Cx (sB g) K own h) {c : Nat} (hc : c < 10) (hl : Cond.fieldLinkNest own ix (gT_Te 3).1 (gT_Te 3).2.1 (gT_Te 3).2.2.1 gC_B ∈ nestB) (hdg : decode cc pc = .ok (.getfield ix, 3)) (kk : V K (wp (sB g)) M (pc + 3) lv (.int (M (17 + c) 3) :: rest)) : V K (wp (sB g)) M pc lv (.ref (ga g (17 + c)) :: rest) := v_getN h0 hC gW_Te (17 + c) (show 17 + c < 59 by omega) (eB_Te g hc _) rfl 3 (by decide) hl rfl hdg kk
theorem pN_Te_start (h0 : C0 K cc) (hC : Cx (sB g) K own h) {c : Nat} (hc : c < 10) {x : Int32} (hl : Cond.fieldLinkNest own ix (gT_Te 3).1 (gT_Te 3).2.1 (gT_Te 3).2.2.1 gC_B ∈ nestB) (hdg : decode cc pc = .ok (.putfield ix, 3)) (kk : V K (wp (sB g)) (up2 M (17 + c) 3 x) (pc + 3) lv rest) : V K (wp (sB g)) M pc lv (.int x :: .ref (ga g (17 + c)) :: rest) := v_putN h0 hC gW_Te gU_Te gO_Te gN_Te (17 + c) (show 17 + c < 59 by omega) (eB_Te g hc _) rfl 3 (by decide) hl rfl rfl rfl (Nat.le_of_ble_eq_true rfl) _ (by rw [eB_Te g hc]; rfl) hdg kk
theorem g_Te_wellFormed (h0 : C0 K cc) (hC : Cx (sB g) K own h) {c : Nat} (hc : c < 10) (hl : Cond.fieldLink own ix (gT_Te 4).1 (gT_Te 4).2.1 (gT_Te 4).2.2.1 ∈ wG) (hdg : decode cc pc = .ok (.getfield ix, 3)) (kk : V K (wp (sB g)) M (pc + 3) lv (.int (M (17 + c) 4) :: rest)) : V K (wp (sB g)) M pc lv (.ref (ga g (17 + c)) :: rest) := v_get h0 hC gW_Te (17 + c) (show 17 + c < 59 by omega) (eB_Te g hc _) rfl 4 (by decide) hl rfl hdg kk
theorem p_Te_wellFormed (h0 : C0 K cc) (hC : Cx (sB g) K own h) {c : Nat} (hc : c < 10) {x : Int32} (hx : x = 0 ∨ x = 1) (hl : Cond.fieldLink own ix (gT_Te 4).1 (gT_Te 4).2.1 (gT_Te 4).2.2.1 ∈ wG) (hdg : decode cc pc = .ok (.putfield ix, 3)) (kk : V K (wp (sB g)) (up2 M (17 + c) 4 x) (pc + 3) lv rest) : V K (wp (sB g)) M pc lv (.int x :: .ref (ga g (17 + c)) :: rest) := v_put h0 hC gW_Te gU_Te gO_Te gN_Te (17 + c) (show 17 + c < 59 by omega) (eB_Te g hc _) rfl 4 (by decide) hl rfl (by rcases hx with rfl | rfl <;> rfl) (by rcases hx with rfl | rfl <;> rfl) (Nat.le_of_ble_eq_true rfl) _ (by rw [eB_Te g hc]; rfl) hdg kk
theorem gN_Te_wellFormed (h0 : C0 K cc) (hC : Cx (sB g) K own h) {c : Nat} (hc : c < 10) (hl : Cond.fieldLinkNest own ix (gT_Te 4).1 (gT_Te 4).2.1 (gT_Te 4).2.2.1 gC_B ∈ nestB) (hdg : decode cc pc = .ok (.getfield ix, 3)) (kk : V K (wp (sB g)) M (pc + 3) lv (.int (M (17 + c) 4) :: rest)) : V K (wp (sB g)) M pc lv (.ref (ga g (17 + c)) :: rest) := v_getN h0 hC gW_Te (17 + c) (show 17 + c < 59 by omega) (eB_Te g hc _) rfl 4 (by decide) hl rfl hdg kk
theorem pN_Te_wellFormed (h0 : C0 K cc) (hC : Cx (sB g) K own h) {c : Nat} (hc : c < 10) {x : Int32} (hx : x = 0 ∨ x = 1) (hl : Cond.fieldLinkNest own ix (gT_Te 4).1 (gT_Te 4).2.1 (gT_Te 4).2.2.1 gC_B ∈ nestB) (hdg : decode cc pc = .ok (.putfield ix, 3)) (kk : V K (wp (sB g)) (up2 M (17 + c) 4 x) (pc + 3) lv rest) : V K (wp (sB g)) M pc lv (.int x :: .ref (ga g (17 + c)) :: rest) := v_putN h0 hC gW_Te gU_Te gO_Te gN_Te (17 + c) (show 17 + c < 59 by omega) (eB_Te g hc _) rfl 4 (by decide) hl rfl (by rcases hx with rfl | rfl <;> rfl) (by rcases hx with rfl | rfl <;> rfl) (Nat.le_of_ble_eq_true rfl) _ (by rw [eB_Te g hc]; rfl) hdg kk
theorem g_Te_names (h0 : C0 K cc) (hC : Cx (sB g) K own h) {c : Nat} (hc : c < 10) (hl : Cond.fieldLink own ix (gT_Te 5).1 (gT_Te 5).2.1 (gT_Te 5).2.2.1 ∈ wG) (hdg : decode cc pc = .ok (.getfield ix, 3)) (kk : V K (wp (sB g)) M (pc + 3) lv (.int (M (17 + c) 5) :: rest)) : V K (wp (sB g)) M pc lv (.ref (ga g (17 + c)) :: rest) := v_get h0 hC gW_Te (17 + c) (show 17 + c < 59 by omega) (eB_Te g hc _) rfl 5 (by decide) hl rfl hdg kk
theorem p_Te_names (h0 : C0 K cc) (hC : Cx (sB g) K own h) {c : Nat} (hc : c < 10) {x : Int32} (hl : Cond.fieldLink own ix (gT_Te 5).1 (gT_Te 5).2.1 (gT_Te 5).2.2.1 ∈ wG) (hdg : decode cc pc = .ok (.putfield ix, 3)) (kk : V K (wp (sB g)) (up2 M (17 + c) 5 x) (pc + 3) lv rest) : V K (wp (sB g)) M pc lv (.int x :: .ref (ga g (17 + c)) :: rest) := v_put h0 hC gW_Te gU_Te gO_Te gN_Te (17 + c) (show 17 + c < 59 by omega) (eB_Te g hc _) rfl 5 (by decide) hl rfl rfl rfl (Nat.le_of_ble_eq_true rfl) _ (by rw [eB_Te g hc]; rfl) hdg kk
theorem gN_Te_names (h0 : C0 K cc) (hC : Cx (sB g) K own h) {c : Nat} (hc : c < 10) (hl : Cond.fieldLinkNest own ix (gT_Te 5).1 (gT_Te 5).2.1 (gT_Te 5).2.2.1 gC_B ∈ nestB) (hdg : decode cc pc = .ok (.getfield ix, 3)) (kk : V K (wp (sB g)) M (pc + 3) lv (.int (M (17 + c) 5) :: rest)) : V K (wp (sB g)) M pc lv (.ref (ga g (17 + c)) :: rest) := v_getN h0 hC gW_Te (17 + c) (show 17 + c < 59 by omega) (eB_Te g hc _) rfl 5 (by decide) hl rfl hdg kk
theorem pN_Te_names (h0 : C0 K cc) (hC : Cx (sB g) K own h) {c : Nat} (hc : c < 10) {x : Int32} (hl : Cond.fieldLinkNest own ix (gT_Te 5).1 (gT_Te 5).2.1 (gT_Te 5).2.2.1 gC_B ∈ nestB) (hdg : decode cc pc = .ok (.putfield ix, 3)) (kk : V K (wp (sB g)) (up2 M (17 + c) 5 x) (pc + 3) lv rest) : V K (wp (sB g)) M pc lv (.int x :: .ref (ga g (17 + c)) :: rest) := v_putN h0 hC gW_Te gU_Te gO_Te gN_Te (17 + c) (show 17 + c < 59 by omega) (eB_Te g hc _) rfl 5 (by decide) hl rfl rfl rfl (Nat.le_of_ble_eq_true rfl) _ (by rw [eB_Te g hc]; rfl) hdg kk
theorem g_Fr_openFunctions (h0 : C0 K cc) (hC : Cx (sB g) K own h) {c : Nat} (hc : c < 6) (hl : Cond.fieldLink own ix (gT_Fr 0).1 (gT_Fr 0).2.1 (gT_Fr 0).2.2.1 ∈ wG) (hdg : decode cc pc = .ok (.getfield ix, 3)) (kk : V K (wp (sB g)) M (pc + 3) lv (.int (nI c) :: rest)) : V K (wp (sB g)) M pc lv (.ref (ga g (47 + c)) :: rest) := v_get h0 hC gW_Fr (47 + c) (show 47 + c < 59 by omega) (eB_Fr g hc _) rfl 0 (by decide) hl rfl hdg kk
theorem gN_Fr_openFunctions (h0 : C0 K cc) (hC : Cx (sB g) K own h) {c : Nat} (hc : c < 6) (hl : Cond.fieldLinkNest own ix (gT_Fr 0).1 (gT_Fr 0).2.1 (gT_Fr 0).2.2.1 gC_B ∈ nestB) (hdg : decode cc pc = .ok (.getfield ix, 3)) (kk : V K (wp (sB g)) M (pc + 3) lv (.int (nI c) :: rest)) : V K (wp (sB g)) M pc lv (.ref (ga g (47 + c)) :: rest) := v_getN h0 hC gW_Fr (47 + c) (show 47 + c < 59 by omega) (eB_Fr g hc _) rfl 0 (by decide) hl rfl hdg kk
theorem g_Fr_locals (h0 : C0 K cc) (hC : Cx (sB g) K own h) {c : Nat} (hc : c < 6) (hl : Cond.fieldLink own ix (gT_Fr 1).1 (gT_Fr 1).2.1 (gT_Fr 1).2.2.1 ∈ wG) (hdg : decode cc pc = .ok (.getfield ix, 3)) (kk : V K (wp (sB g)) M (pc + 3) lv (.ref (ga g (53 + c)) :: rest)) : V K (wp (sB g)) M pc lv (.ref (ga g (47 + c)) :: rest) := v_get h0 hC gW_Fr (47 + c) (show 47 + c < 59 by omega) (eB_Fr g hc _) rfl 1 (by decide) hl rfl hdg kk
theorem gN_Fr_locals (h0 : C0 K cc) (hC : Cx (sB g) K own h) {c : Nat} (hc : c < 6) (hl : Cond.fieldLinkNest own ix (gT_Fr 1).1 (gT_Fr 1).2.1 (gT_Fr 1).2.2.1 gC_B ∈ nestB) (hdg : decode cc pc = .ok (.getfield ix, 3)) (kk : V K (wp (sB g)) M (pc + 3) lv (.ref (ga g (53 + c)) :: rest)) : V K (wp (sB g)) M pc lv (.ref (ga g (47 + c)) :: rest) := v_getN h0 hC gW_Fr (47 + c) (show 47 + c < 59 by omega) (eB_Fr g hc _) rfl 1 (by decide) hl rfl hdg kk
theorem g_Fr_text (h0 : C0 K cc) (hC : Cx (sB g) K own h) {c : Nat} (hc : c < 6) (hl : Cond.fieldLink own ix (gT_Fr 2).1 (gT_Fr 2).2.1 (gT_Fr 2).2.2.1 ∈ wG) (hdg : decode cc pc = .ok (.getfield ix, 3)) (kk : V K (wp (sB g)) M (pc + 3) lv (dcT g (M (47 + c) 2) :: rest)) : V K (wp (sB g)) M pc lv (.ref (ga g (47 + c)) :: rest) := v_get h0 hC gW_Fr (47 + c) (show 47 + c < 59 by omega) (eB_Fr g hc _) rfl 2 (by decide) hl rfl hdg kk
theorem p_Fr_text (h0 : C0 K cc) (hC : Cx (sB g) K own h) {c : Nat} (hc : c < 6) {e : Nat} (he : e < 10) (hl : Cond.fieldLink own ix (gT_Fr 2).1 (gT_Fr 2).2.1 (gT_Fr 2).2.2.1 ∈ wG) (hdg : decode cc pc = .ok (.putfield ix, 3)) (kk : V K (wp (sB g)) (up2 M (47 + c) 2 (nI (e + 1))) (pc + 3) lv rest) : V K (wp (sB g)) M pc lv (.ref (ga g (17 + e)) :: .ref (ga g (47 + c)) :: rest) := v_put h0 hC gW_Fr gU_Fr gO_Fr gN_Fr (47 + c) (show 47 + c < 59 by omega) (eB_Fr g hc _) rfl 2 (by decide) hl rfl rfl rfl (Nat.le_of_ble_eq_true rfl) _ (by rw [eB_Fr g hc]; simp [upd, dcT_c g he]) hdg kk
theorem gN_Fr_text (h0 : C0 K cc) (hC : Cx (sB g) K own h) {c : Nat} (hc : c < 6) (hl : Cond.fieldLinkNest own ix (gT_Fr 2).1 (gT_Fr 2).2.1 (gT_Fr 2).2.2.1 gC_B ∈ nestB) (hdg : decode cc pc = .ok (.getfield ix, 3)) (kk : V K (wp (sB g)) M (pc + 3) lv (dcT g (M (47 + c) 2) :: rest)) : V K (wp (sB g)) M pc lv (.ref (ga g (47 + c)) :: rest) := v_getN h0 hC gW_Fr (47 + c) (show 47 + c < 59 by omega) (eB_Fr g hc _) rfl 2 (by decide) hl rfl hdg kk
theorem pN_Fr_text (h0 : C0 K cc) (hC : Cx (sB g) K own h) {c : Nat} (hc : c < 6) {e : Nat} (he : e < 10) (hl : Cond.fieldLinkNest own ix (gT_Fr 2).1 (gT_Fr 2).2.1 (gT_Fr 2).2.2.1 gC_B ∈ nestB) (hdg : decode cc pc = .ok (.putfield ix, 3)) (kk : V K (wp (sB g)) (up2 M (47 + c) 2 (nI (e + 1))) (pc + 3) lv rest) : V K (wp (sB g)) M pc lv (.ref (ga g (17 + e)) :: .ref (ga g (47 + c)) :: rest) := v_putN h0 hC gW_Fr gU_Fr gO_Fr gN_Fr (47 + c) (show 47 + c < 59 by omega) (eB_Fr g hc _) rfl 2 (by decide) hl rfl rfl rfl (Nat.le_of_ble_eq_true rfl) _ (by rw [eB_Fr g hc]; simp [upd, dcT_c g he]) hdg kk
theorem g_Ev_frames (h0 : C0 K cc) (hC : Cx (sB g) K own h) (hl : Cond.fieldLink own ix (gT_Ev 0).1 (gT_Ev 0).2.1 (gT_Ev 0).2.2.1 ∈ wG) (hdg : decode cc pc = .ok (.getfield ix, 3)) (kk : V K (wp (sB g)) M (pc + 3) lv (.ref (ga g 6) :: rest)) : V K (wp (sB g)) M pc lv (.ref (ga g 4) :: rest) := v_get h0 hC gW_Ev 4 (show 4 < 59 by decide) (eB_Ev g _) rfl 0 (by decide) hl rfl hdg kk
theorem g_Ev_definers (h0 : C0 K cc) (hC : Cx (sB g) K own h) (hl : Cond.fieldLink own ix (gT_Ev 1).1 (gT_Ev 1).2.1 (gT_Ev 1).2.2.1 ∈ wG) (hdg : decode cc pc = .ok (.getfield ix, 3)) (kk : V K (wp (sB g)) M (pc + 3) lv (dcV g (M 4 1) :: rest)) : V K (wp (sB g)) M pc lv (.ref (ga g 4) :: rest) := v_get h0 hC gW_Ev 4 (show 4 < 59 by decide) (eB_Ev g _) rfl 1 (by decide) hl rfl hdg kk
theorem p_Ev_definers (h0 : C0 K cc) (hC : Cx (sB g) K own h) (hl : Cond.fieldLink own ix (gT_Ev 1).1 (gT_Ev 1).2.1 (gT_Ev 1).2.2.1 ∈ wG) (hdg : decode cc pc = .ok (.putfield ix, 3)) (kk : V K (wp (sB g)) (up2 M 4 1 1) (pc + 3) lv rest) : V K (wp (sB g)) M pc lv (.ref (ga g 2) :: .ref (ga g 4) :: rest) := v_put h0 hC gW_Ev gU_Ev gO_Ev gN_Ev 4 (show 4 < 59 by decide) (eB_Ev g _) rfl 1 (by decide) hl rfl rfl rfl (Nat.le_of_ble_eq_true rfl) _ (by rw [eB_Ev g]; simp [upd, dcV]) hdg kk
theorem g_Ev_stepsMade (h0 : C0 K cc) (hC : Cx (sB g) K own h) (hl : Cond.fieldLink own ix (gT_Ev 2).1 (gT_Ev 2).2.1 (gT_Ev 2).2.2.1 ∈ wG) (hdg : decode cc pc = .ok (.getfield ix, 3)) (kk : V K (wp (sB g)) M (pc + 3) lv (.int (M 4 2) :: rest)) : V K (wp (sB g)) M pc lv (.ref (ga g 4) :: rest) := v_get h0 hC gW_Ev 4 (show 4 < 59 by decide) (eB_Ev g _) rfl 2 (by decide) hl rfl hdg kk
theorem p_Ev_stepsMade (h0 : C0 K cc) (hC : Cx (sB g) K own h) {x : Int32} (hl : Cond.fieldLink own ix (gT_Ev 2).1 (gT_Ev 2).2.1 (gT_Ev 2).2.2.1 ∈ wG) (hdg : decode cc pc = .ok (.putfield ix, 3)) (kk : V K (wp (sB g)) (up2 M 4 2 x) (pc + 3) lv rest) : V K (wp (sB g)) M pc lv (.int x :: .ref (ga g 4) :: rest) := v_put h0 hC gW_Ev gU_Ev gO_Ev gN_Ev 4 (show 4 < 59 by decide) (eB_Ev g _) rfl 2 (by decide) hl rfl rfl rfl (Nat.le_of_ble_eq_true rfl) _ (by rw [eB_Ev g]; rfl) hdg kk
theorem g_Ev_stepsInAll (h0 : C0 K cc) (hC : Cx (sB g) K own h) (hl : Cond.fieldLink own ix (gT_Ev 3).1 (gT_Ev 3).2.1 (gT_Ev 3).2.2.1 ∈ wG) (hdg : decode cc pc = .ok (.getfield ix, 3)) (kk : V K (wp (sB g)) M (pc + 3) lv (.int (M 4 3) :: rest)) : V K (wp (sB g)) M pc lv (.ref (ga g 4) :: rest) := v_get h0 hC gW_Ev 4 (show 4 < 59 by decide) (eB_Ev g _) rfl 3 (by decide) hl rfl hdg kk
theorem p_Ev_stepsInAll (h0 : C0 K cc) (hC : Cx (sB g) K own h) {x : Int32} (hl : Cond.fieldLink own ix (gT_Ev 3).1 (gT_Ev 3).2.1 (gT_Ev 3).2.2.1 ∈ wG) (hdg : decode cc pc = .ok (.putfield ix, 3)) (kk : V K (wp (sB g)) (up2 M 4 3 x) (pc + 3) lv rest) : V K (wp (sB g)) M pc lv (.int x :: .ref (ga g 4) :: rest) := v_put h0 hC gW_Ev gU_Ev gO_Ev gN_Ev 4 (show 4 < 59 by decide) (eB_Ev g _) rfl 3 (by decide) hl rfl rfl rfl (Nat.le_of_ble_eq_true rfl) _ (by rw [eB_Ev g]; rfl) hdg kk
theorem gN_Ev_stepsInAll (h0 : C0 K cc) (hC : Cx (sB g) K own h) (hl : Cond.fieldLinkNest own ix (gT_Ev 3).1 (gT_Ev 3).2.1 (gT_Ev 3).2.2.1 gC_B ∈ nestB) (hdg : decode cc pc = .ok (.getfield ix, 3)) (kk : V K (wp (sB g)) M (pc + 3) lv (.int (M 4 3) :: rest)) : V K (wp (sB g)) M pc lv (.ref (ga g 4) :: rest) := v_getN h0 hC gW_Ev 4 (show 4 < 59 by decide) (eB_Ev g _) rfl 3 (by decide) hl rfl hdg kk
theorem pN_Ev_stepsInAll (h0 : C0 K cc) (hC : Cx (sB g) K own h) {x : Int32} (hl : Cond.fieldLinkNest own ix (gT_Ev 3).1 (gT_Ev 3).2.1 (gT_Ev 3).2.2.1 gC_B ∈ nestB) (hdg : decode cc pc = .ok (.putfield ix, 3)) (kk : V K (wp (sB g)) (up2 M 4 3 x) (pc + 3) lv rest) : V K (wp (sB g)) M pc lv (.int x :: .ref (ga g 4) :: rest) := v_putN h0 hC gW_Ev gU_Ev gO_Ev gN_Ev 4 (show 4 < 59 by decide) (eB_Ev g _) rfl 3 (by decide) hl rfl rfl rfl (Nat.le_of_ble_eq_true rfl) _ (by rw [eB_Ev g]; rfl) hdg kk
theorem g_Ev_error (h0 : C0 K cc) (hC : Cx (sB g) K own h) (hl : Cond.fieldLink own ix (gT_Ev 4).1 (gT_Ev 4).2.1 (gT_Ev 4).2.2.1 ∈ wG) (hdg : decode cc pc = .ok (.getfield ix, 3)) (kk : V K (wp (sB g)) M (pc + 3) lv (.int (M 4 4) :: rest)) : V K (wp (sB g)) M pc lv (.ref (ga g 4) :: rest) := v_get h0 hC gW_Ev 4 (show 4 < 59 by decide) (eB_Ev g _) rfl 4 (by decide) hl rfl hdg kk
theorem p_Ev_error (h0 : C0 K cc) (hC : Cx (sB g) K own h) {x : Int32} (hl : Cond.fieldLink own ix (gT_Ev 4).1 (gT_Ev 4).2.1 (gT_Ev 4).2.2.1 ∈ wG) (hdg : decode cc pc = .ok (.putfield ix, 3)) (kk : V K (wp (sB g)) (up2 M 4 4 x) (pc + 3) lv rest) : V K (wp (sB g)) M pc lv (.int x :: .ref (ga g 4) :: rest) := v_put h0 hC gW_Ev gU_Ev gO_Ev gN_Ev 4 (show 4 < 59 by decide) (eB_Ev g _) rfl 4 (by decide) hl rfl rfl rfl (Nat.le_of_ble_eq_true rfl) _ (by rw [eB_Ev g]; rfl) hdg kk
theorem a_B_signs (h0 : C0 K cc) (hC : Cx (sB g) K own h) {c : Nat} (hc : c < 10) {x : Int32} (j : Nat) (hx : x = nI j) (hj : j < 24) (hdg : decode cc pc = .ok (.caload, 1)) (kk : V K (wp (sB g)) M (pc + 1) lv (.int (M (27 + c) j) :: rest)) : V K (wp (sB g)) M pc lv (.int x :: .ref (ga g (27 + c)) :: rest) := v_cald h0 hC (27 + c) (show 27 + c < 59 by omega) (eB_signs g hc _) 2 rfl j hx hj (by decide) hdg kk
theorem s_B_signs (h0 : C0 K cc) (hC : Cx (sB g) K own h) {c : Nat} (hc : c < 10) {x y z : Int32} (j : Nat) (hy : y = nI j) (hz : (vp_nar .char x) = z) (hj : j < 24) (hdg : decode cc pc = .ok (.castore, 1)) (kk : V K (wp (sB g)) (up2 M (27 + c) j z) (pc + 1) lv rest) : V K (wp (sB g)) M pc lv (.int x :: .int y :: .ref (ga g (27 + c)) :: rest) := v_cast h0 hC (27 + c) (show 27 + c < 59 by omega) (eB_signs g hc) 2 rfl j hy hz hj (by decide) hdg kk
theorem a_B_ends (h0 : C0 K cc) (hC : Cx (sB g) K own h) {c : Nat} (hc : c < 10) {x : Int32} (j : Nat) (hx : x = nI j) (hj : j < 24) (hdg : decode cc pc = .ok (.iaload, 1)) (kk : V K (wp (sB g)) M (pc + 1) lv (.int (M (37 + c) j) :: rest)) : V K (wp (sB g)) M pc lv (.int x :: .ref (ga g (37 + c)) :: rest) := v_iald h0 hC (37 + c) (show 37 + c < 59 by omega) (eB_ends g hc _) 1 rfl j hx hj (by decide) hdg kk
theorem s_B_ends (h0 : C0 K cc) (hC : Cx (sB g) K own h) {c : Nat} (hc : c < 10) {x y z : Int32} (j : Nat) (hy : y = nI j) (hz : x = z) (hj : j < 24) (hdg : decode cc pc = .ok (.iastore, 1)) (kk : V K (wp (sB g)) (up2 M (37 + c) j z) (pc + 1) lv rest) : V K (wp (sB g)) M pc lv (.int x :: .int y :: .ref (ga g (37 + c)) :: rest) := v_iast h0 hC (37 + c) (show 37 + c < 59 by omega) (eB_ends g hc) 1 rfl j hy hz hj (by decide) hdg kk
theorem a_B_bound (h0 : C0 K cc) (hC : Cx (sB g) K own h) {c : Nat} (hc : c < 6) {x : Int32} (j : Nat) (hx : x = nI j) (hj : j < 6) (hdg : decode cc pc = .ok (.iaload, 1)) (kk : V K (wp (sB g)) M (pc + 1) lv (.int (M (53 + c) j) :: rest)) : V K (wp (sB g)) M pc lv (.int x :: .ref (ga g (53 + c)) :: rest) := v_iald h0 hC (53 + c) (show 53 + c < 59 by omega) (eB_bound g hc _) 1 rfl j hx hj (by decide) hdg kk
theorem s_B_bound (h0 : C0 K cc) (hC : Cx (sB g) K own h) {c : Nat} (hc : c < 6) {x y z : Int32} (j : Nat) (hy : y = nI j) (hz : x = z) (hj : j < 6) (hdg : decode cc pc = .ok (.iastore, 1)) (kk : V K (wp (sB g)) (up2 M (53 + c) j z) (pc + 1) lv rest) : V K (wp (sB g)) M pc lv (.int x :: .int y :: .ref (ga g (53 + c)) :: rest) := v_iast h0 hC (53 + c) (show 53 + c < 59 by omega) (eB_bound g hc) 1 rfl j hy hz hj (by decide) hdg kk
theorem a_B_reached (h0 : C0 K cc) (hC : Cx (sB g) K own h) {x : Int32} (j : Nat) (hx : x = nI j) (hj : j < 10) (hdg : decode cc pc = .ok (.iaload, 1)) (kk : V K (wp (sB g)) M (pc + 1) lv (.int (M 3 j) :: rest)) : V K (wp (sB g)) M pc lv (.int x :: .ref (ga g 3) :: rest) := v_iald h0 hC 3 (show 3 < 59 by decide) (eB_reached g _) 1 rfl j hx hj (by decide) hdg kk
theorem s_B_reached (h0 : C0 K cc) (hC : Cx (sB g) K own h) {x y z : Int32} (j : Nat) (hy : y = nI j) (hz : x = z) (hj : j < 10) (hdg : decode cc pc = .ok (.iastore, 1)) (kk : V K (wp (sB g)) (up2 M 3 j z) (pc + 1) lv rest) : V K (wp (sB g)) M pc lv (.int x :: .int y :: .ref (ga g 3) :: rest) := v_iast h0 hC 3 (show 3 < 59 by decide) (eB_reached g) 1 rfl j hy hz hj (by decide) hdg kk
theorem a_B_typed (h0 : C0 K cc) (hC : Cx (sB g) K own h) {x : Int32} (j : Nat) (hx : x = nI j) (hj : j < 24) (hdg : decode cc pc = .ok (.caload, 1)) (kk : V K (wp (sB g)) M (pc + 1) lv (.int (M 5 j) :: rest)) : V K (wp (sB g)) M pc lv (.int x :: .ref (ga g 5) :: rest) := v_cald h0 hC 5 (show 5 < 59 by decide) (eB_typed g _) 2 rfl j hx hj (by decide) hdg kk
theorem s_B_typed (h0 : C0 K cc) (hC : Cx (sB g) K own h) {x y z : Int32} (j : Nat) (hy : y = nI j) (hz : (vp_nar .char x) = z) (hj : j < 24) (hdg : decode cc pc = .ok (.castore, 1)) (kk : V K (wp (sB g)) (up2 M 5 j z) (pc + 1) lv rest) : V K (wp (sB g)) M pc lv (.int x :: .int y :: .ref (ga g 5) :: rest) := v_cast h0 hC 5 (show 5 < 59 by decide) (eB_typed g) 2 rfl j hy hz hj (by decide) hdg kk
theorem a_B_cells (h0 : C0 K cc) (hC : Cx (sB g) K own h) {x : Int32} (j : Nat) (hx : x = nI j) (hj : j < 10) (hdg : decode cc pc = .ok (.aaload, 1)) (kk : V K (wp (sB g)) M (pc + 1) lv (.ref (ga g (7 + j)) :: rest)) : V K (wp (sB g)) M pc lv (.int x :: .ref (ga g 1) :: rest) := v_ald h0 hC 1 (show 1 < 59 by decide) (eB_cells g _) 0 rfl j hx hj (by decide) rfl hdg kk
theorem a_B_frames (h0 : C0 K cc) (hC : Cx (sB g) K own h) {x : Int32} (j : Nat) (hx : x = nI j) (hj : j < 6) (hdg : decode cc pc = .ok (.aaload, 1)) (kk : V K (wp (sB g)) M (pc + 1) lv (.ref (ga g (47 + j)) :: rest)) : V K (wp (sB g)) M pc lv (.int x :: .ref (ga g 6) :: rest) := v_ald h0 hC 6 (show 6 < 59 by decide) (eB_frames g _) 3 rfl j hx hj (by decide) rfl hdg kk
theorem a_B_defs (h0 : C0 K cc) (hC : Cx (sB g) K own h) {x : Int32} (j : Nat) (hx : x = nI j) (hj : j < 10) (hdg : decode cc pc = .ok (.aaload, 1)) (kk : V K (wp (sB g)) M (pc + 1) lv (va_rf (dcC g (M 2 j)) :: rest)) : V K (wp (sB g)) M pc lv (.int x :: .ref (ga g 2) :: rest) := v_ald h0 hC 2 (show 2 < 59 by decide) (eB_defs g _) 0 rfl j hx hj (by decide) rfl hdg kk
theorem s_B_defs (h0 : C0 K cc) (hC : Cx (sB g) K own h) {c : Nat} (hc : c < 10) {x : Int32} (j : Nat) (hx : x = nI j) (hj : j < 10) (hdg : decode cc pc = .ok (.aastore, 1)) (kk : V K (wp (sB g)) (up2 M 2 j (nI (c + 1))) (pc + 1) lv rest) : V K (wp (sB g)) M pc lv (.ref (ga g (7 + c)) :: .int x :: .ref (ga g 2) :: rest) := v_ast h0 hC 2 (show 2 < 59 by decide) (eB_defs g _) 0 (q := (gC_Ce, gT_Ce, 8)) rfl (7 + c) (show 7 + c < 59 by omega) (eB_Ce g hc _) rfl j hx hj (by decide) _ (by rw [eB_defs, dcC_up g hc]; rfl) hdg kk
theorem s_B_defsN (h0 : C0 K cc) (hC : Cx (sB g) K own h) {x : Int32} (j : Nat) (hx : x = nI j) (hj : j < 10) (hdg : decode cc pc = .ok (.aastore, 1)) (kk : V K (wp (sB g)) (up2 M 2 j 0) (pc + 1) lv rest) : V K (wp (sB g)) M pc lv (.null :: .int x :: .ref (ga g 2) :: rest) := v_astN h0 hC 2 (show 2 < 59 by decide) (eB_defs g _) 0 rfl j hx hj (by decide) _ (by rw [eB_defs, dcC_up0 g]) hdg kk
end BR
end
section
/-! THE REFERENCE'S SIDE: 0 the object; 1 typed, 2 text, 3 length, 4 named, 5 end, 6 label, 7 well, 8 used, 9 stale, 10 result, 11 valueOf, 12 kindOf, 13 runsOf, 14 todo, 15 bound, 16 types, 17 cellAt, 18 at, 19 stage, 20 first, 21 bound values -/
def enR (g : Gd) (i : Nat) (r : Nat → Int32) : va_E := match i with
  | 0 => .inr (0, [.ref (ga g 1), .int (r 1), .ref (ga g 2), .ref (ga g 3), .ref (ga g 4), .ref (ga g 5), .ref (ga g 6), .ref (ga g 7), .ref (ga g 8), .ref (ga g 9), .ref (ga g 10), .ref (ga g 11), .ref (ga g 12), .ref (ga g 13), .int (r 14), .ref (ga g 14), .int (r 16), .int (r 17), .ref (ga g 15), .ref (ga g 16), .int (r 20), .ref (ga g 17), .ref (ga g 18), .ref (ga g 19), .ref (ga g 20), .int (r 25), .ref (ga g 21), .int (r 27), .int (r 28), .int (r 29), .int (r 30)])
  | 1 => .inl (gk g 0, 24, .inl r)
  | 2 => .inl (gk g 0, 240, .inl r)
  | 3 => .inl (gk g 1, 10, .inl r)
  | 4 => .inl (gk g 1, 10, .inl r)
  | 5 => .inl (gk g 1, 240, .inl r)
  | 6 => .inl (gk g 2, 240, .inl r)
  | 7 => .inl (gk g 2, 10, .inl r)
  | 8 => .inl (gk g 1, 10, .inl r)
  | 9 => .inl (gk g 2, 10, .inl r)
  | 10 => .inl (gk g 1, 10, .inl r)
  | 11 => .inl (gk g 1, 10, .inl r)
  | 12 => .inl (gk g 1, 10, .inl r)
  | 13 => .inl (gk g 1, 10, .inl r)
  | 14 => .inl (gk g 1, 160, .inl r)
  | 15 => .inl (gk g 1, 6, .inl r)
  | 16 => .inl (gk g 1, 30, .inl r)
  | 17 => .inl (gk g 1, 320, .inl r)
  | 18 => .inl (gk g 1, 320, .inl r)
  | 19 => .inl (gk g 1, 320, .inl r)
  | 20 => .inl (gk g 1, 320, .inl r)
  | _ => .inl (gk g 1, 36, .inl r)
def clR : List vw_C := [(gC_Mo, gT_Mo, 31)]
def sR (g : Gd) : Sd := (g.1, clR, [(gk g 0, .char), (gk g 1, .int), (gk g 2, .boolean)], 22, ga g, enR g, [])
theorem sR_N0 (g : Gd) : sN0 (sR g) := fun w h => absurd h List.not_mem_nil
section RW
variable {g : Gd} {K : Cf} {own : String} {h : Nat} {M : Me} {cc : ByteArray} {pc ix : Nat} {lv : List (Nat × Value)} {rest : List Value}
theorem g_Mo_typed_ (h0 : C0 K cc) (hC : Cx (sR g) K own h) (hl : Cond.fieldLink own ix (gT_Mo 0).1 (gT_Mo 0).2.1 (gT_Mo 0).2.2.1 ∈ wG) (hdg : decode cc pc = .ok (.getfield ix, 3)) (kk : V K (wp (sR g)) M (pc + 3) lv (.ref (ga g 1) :: rest)) : V K (wp (sR g)) M pc lv (.ref (ga g 0) :: rest) := v_get h0 hC gW_Mo 0 (show 0 < 22 by decide) (show enR g 0 (M 0) = _ from rfl) rfl 0 (by decide) hl rfl hdg kk
theorem g_Mo_typedCount_ (h0 : C0 K cc) (hC : Cx (sR g) K own h) (hl : Cond.fieldLink own ix (gT_Mo 1).1 (gT_Mo 1).2.1 (gT_Mo 1).2.2.1 ∈ wG) (hdg : decode cc pc = .ok (.getfield ix, 3)) (kk : V K (wp (sR g)) M (pc + 3) lv (.int (M 0 1) :: rest)) : V K (wp (sR g)) M pc lv (.ref (ga g 0) :: rest) := v_get h0 hC gW_Mo 0 (show 0 < 22 by decide) (show enR g 0 (M 0) = _ from rfl) rfl 1 (by decide) hl rfl hdg kk
theorem p_Mo_typedCount_ (h0 : C0 K cc) (hC : Cx (sR g) K own h) {x : Int32} (hl : Cond.fieldLink own ix (gT_Mo 1).1 (gT_Mo 1).2.1 (gT_Mo 1).2.2.1 ∈ wG) (hdg : decode cc pc = .ok (.putfield ix, 3)) (kk : V K (wp (sR g)) (up2 M 0 1 x) (pc + 3) lv rest) : V K (wp (sR g)) M pc lv (.int x :: .ref (ga g 0) :: rest) := v_put h0 hC gW_Mo gU_Mo gO_Mo gN_Mo 0 (show 0 < 22 by decide) (show enR g 0 (M 0) = _ from rfl) rfl 1 (by decide) hl rfl rfl rfl (Nat.le_of_ble_eq_true rfl) _ (show enR g 0 _ = _ from rfl) hdg kk
theorem g_Mo_text_ (h0 : C0 K cc) (hC : Cx (sR g) K own h) (hl : Cond.fieldLink own ix (gT_Mo 2).1 (gT_Mo 2).2.1 (gT_Mo 2).2.2.1 ∈ wG) (hdg : decode cc pc = .ok (.getfield ix, 3)) (kk : V K (wp (sR g)) M (pc + 3) lv (.ref (ga g 2) :: rest)) : V K (wp (sR g)) M pc lv (.ref (ga g 0) :: rest) := v_get h0 hC gW_Mo 0 (show 0 < 22 by decide) (show enR g 0 (M 0) = _ from rfl) rfl 2 (by decide) hl rfl hdg kk
theorem g_Mo_length_ (h0 : C0 K cc) (hC : Cx (sR g) K own h) (hl : Cond.fieldLink own ix (gT_Mo 3).1 (gT_Mo 3).2.1 (gT_Mo 3).2.2.1 ∈ wG) (hdg : decode cc pc = .ok (.getfield ix, 3)) (kk : V K (wp (sR g)) M (pc + 3) lv (.ref (ga g 3) :: rest)) : V K (wp (sR g)) M pc lv (.ref (ga g 0) :: rest) := v_get h0 hC gW_Mo 0 (show 0 < 22 by decide) (show enR g 0 (M 0) = _ from rfl) rfl 3 (by decide) hl rfl hdg kk
theorem g_Mo_named_ (h0 : C0 K cc) (hC : Cx (sR g) K own h) (hl : Cond.fieldLink own ix (gT_Mo 4).1 (gT_Mo 4).2.1 (gT_Mo 4).2.2.1 ∈ wG) (hdg : decode cc pc = .ok (.getfield ix, 3)) (kk : V K (wp (sR g)) M (pc + 3) lv (.ref (ga g 4) :: rest)) : V K (wp (sR g)) M pc lv (.ref (ga g 0) :: rest) := v_get h0 hC gW_Mo 0 (show 0 < 22 by decide) (show enR g 0 (M 0) = _ from rfl) rfl 4 (by decide) hl rfl hdg kk
theorem g_Mo_end_ (h0 : C0 K cc) (hC : Cx (sR g) K own h) (hl : Cond.fieldLink own ix (gT_Mo 5).1 (gT_Mo 5).2.1 (gT_Mo 5).2.2.1 ∈ wG) (hdg : decode cc pc = .ok (.getfield ix, 3)) (kk : V K (wp (sR g)) M (pc + 3) lv (.ref (ga g 5) :: rest)) : V K (wp (sR g)) M pc lv (.ref (ga g 0) :: rest) := v_get h0 hC gW_Mo 0 (show 0 < 22 by decide) (show enR g 0 (M 0) = _ from rfl) rfl 5 (by decide) hl rfl hdg kk
theorem g_Mo_label_ (h0 : C0 K cc) (hC : Cx (sR g) K own h) (hl : Cond.fieldLink own ix (gT_Mo 6).1 (gT_Mo 6).2.1 (gT_Mo 6).2.2.1 ∈ wG) (hdg : decode cc pc = .ok (.getfield ix, 3)) (kk : V K (wp (sR g)) M (pc + 3) lv (.ref (ga g 6) :: rest)) : V K (wp (sR g)) M pc lv (.ref (ga g 0) :: rest) := v_get h0 hC gW_Mo 0 (show 0 < 22 by decide) (show enR g 0 (M 0) = _ from rfl) rfl 6 (by decide) hl rfl hdg kk
theorem g_Mo_well_ (h0 : C0 K cc) (hC : Cx (sR g) K own h) (hl : Cond.fieldLink own ix (gT_Mo 7).1 (gT_Mo 7).2.1 (gT_Mo 7).2.2.1 ∈ wG) (hdg : decode cc pc = .ok (.getfield ix, 3)) (kk : V K (wp (sR g)) M (pc + 3) lv (.ref (ga g 7) :: rest)) : V K (wp (sR g)) M pc lv (.ref (ga g 0) :: rest) := v_get h0 hC gW_Mo 0 (show 0 < 22 by decide) (show enR g 0 (M 0) = _ from rfl) rfl 7 (by decide) hl rfl hdg kk
theorem g_Mo_used_ (h0 : C0 K cc) (hC : Cx (sR g) K own h) (hl : Cond.fieldLink own ix (gT_Mo 8).1 (gT_Mo 8).2.1 (gT_Mo 8).2.2.1 ∈ wG) (hdg : decode cc pc = .ok (.getfield ix, 3)) (kk : V K (wp (sR g)) M (pc + 3) lv (.ref (ga g 8) :: rest)) : V K (wp (sR g)) M pc lv (.ref (ga g 0) :: rest) := v_get h0 hC gW_Mo 0 (show 0 < 22 by decide) (show enR g 0 (M 0) = _ from rfl) rfl 8 (by decide) hl rfl hdg kk
theorem g_Mo_stale_ (h0 : C0 K cc) (hC : Cx (sR g) K own h) (hl : Cond.fieldLink own ix (gT_Mo 9).1 (gT_Mo 9).2.1 (gT_Mo 9).2.2.1 ∈ wG) (hdg : decode cc pc = .ok (.getfield ix, 3)) (kk : V K (wp (sR g)) M (pc + 3) lv (.ref (ga g 9) :: rest)) : V K (wp (sR g)) M pc lv (.ref (ga g 0) :: rest) := v_get h0 hC gW_Mo 0 (show 0 < 22 by decide) (show enR g 0 (M 0) = _ from rfl) rfl 9 (by decide) hl rfl hdg kk
theorem g_Mo_result_ (h0 : C0 K cc) (hC : Cx (sR g) K own h) (hl : Cond.fieldLink own ix (gT_Mo 10).1 (gT_Mo 10).2.1 (gT_Mo 10).2.2.1 ∈ wG) (hdg : decode cc pc = .ok (.getfield ix, 3)) (kk : V K (wp (sR g)) M (pc + 3) lv (.ref (ga g 10) :: rest)) : V K (wp (sR g)) M pc lv (.ref (ga g 0) :: rest) := v_get h0 hC gW_Mo 0 (show 0 < 22 by decide) (show enR g 0 (M 0) = _ from rfl) rfl 10 (by decide) hl rfl hdg kk
theorem g_Mo_valueOf_ (h0 : C0 K cc) (hC : Cx (sR g) K own h) (hl : Cond.fieldLink own ix (gT_Mo 11).1 (gT_Mo 11).2.1 (gT_Mo 11).2.2.1 ∈ wG) (hdg : decode cc pc = .ok (.getfield ix, 3)) (kk : V K (wp (sR g)) M (pc + 3) lv (.ref (ga g 11) :: rest)) : V K (wp (sR g)) M pc lv (.ref (ga g 0) :: rest) := v_get h0 hC gW_Mo 0 (show 0 < 22 by decide) (show enR g 0 (M 0) = _ from rfl) rfl 11 (by decide) hl rfl hdg kk
theorem g_Mo_kindOf_ (h0 : C0 K cc) (hC : Cx (sR g) K own h) (hl : Cond.fieldLink own ix (gT_Mo 12).1 (gT_Mo 12).2.1 (gT_Mo 12).2.2.1 ∈ wG) (hdg : decode cc pc = .ok (.getfield ix, 3)) (kk : V K (wp (sR g)) M (pc + 3) lv (.ref (ga g 12) :: rest)) : V K (wp (sR g)) M pc lv (.ref (ga g 0) :: rest) := v_get h0 hC gW_Mo 0 (show 0 < 22 by decide) (show enR g 0 (M 0) = _ from rfl) rfl 12 (by decide) hl rfl hdg kk
theorem g_Mo_runsOf_ (h0 : C0 K cc) (hC : Cx (sR g) K own h) (hl : Cond.fieldLink own ix (gT_Mo 13).1 (gT_Mo 13).2.1 (gT_Mo 13).2.2.1 ∈ wG) (hdg : decode cc pc = .ok (.getfield ix, 3)) (kk : V K (wp (sR g)) M (pc + 3) lv (.ref (ga g 13) :: rest)) : V K (wp (sR g)) M pc lv (.ref (ga g 0) :: rest) := v_get h0 hC gW_Mo 0 (show 0 < 22 by decide) (show enR g 0 (M 0) = _ from rfl) rfl 13 (by decide) hl rfl hdg kk
theorem g_Mo_made_ (h0 : C0 K cc) (hC : Cx (sR g) K own h) (hl : Cond.fieldLink own ix (gT_Mo 14).1 (gT_Mo 14).2.1 (gT_Mo 14).2.2.1 ∈ wG) (hdg : decode cc pc = .ok (.getfield ix, 3)) (kk : V K (wp (sR g)) M (pc + 3) lv (.int (M 0 14) :: rest)) : V K (wp (sR g)) M pc lv (.ref (ga g 0) :: rest) := v_get h0 hC gW_Mo 0 (show 0 < 22 by decide) (show enR g 0 (M 0) = _ from rfl) rfl 14 (by decide) hl rfl hdg kk
theorem p_Mo_made_ (h0 : C0 K cc) (hC : Cx (sR g) K own h) {x : Int32} (hl : Cond.fieldLink own ix (gT_Mo 14).1 (gT_Mo 14).2.1 (gT_Mo 14).2.2.1 ∈ wG) (hdg : decode cc pc = .ok (.putfield ix, 3)) (kk : V K (wp (sR g)) (up2 M 0 14 x) (pc + 3) lv rest) : V K (wp (sR g)) M pc lv (.int x :: .ref (ga g 0) :: rest) := v_put h0 hC gW_Mo gU_Mo gO_Mo gN_Mo 0 (show 0 < 22 by decide) (show enR g 0 (M 0) = _ from rfl) rfl 14 (by decide) hl rfl rfl rfl (Nat.le_of_ble_eq_true rfl) _ (show enR g 0 _ = _ from rfl) hdg kk
theorem g_Mo_todo_ (h0 : C0 K cc) (hC : Cx (sR g) K own h) (hl : Cond.fieldLink own ix (gT_Mo 15).1 (gT_Mo 15).2.1 (gT_Mo 15).2.2.1 ∈ wG) (hdg : decode cc pc = .ok (.getfield ix, 3)) (kk : V K (wp (sR g)) M (pc + 3) lv (.ref (ga g 14) :: rest)) : V K (wp (sR g)) M pc lv (.ref (ga g 0) :: rest) := v_get h0 hC gW_Mo 0 (show 0 < 22 by decide) (show enR g 0 (M 0) = _ from rfl) rfl 15 (by decide) hl rfl hdg kk
theorem g_Mo_nested_ (h0 : C0 K cc) (hC : Cx (sR g) K own h) (hl : Cond.fieldLink own ix (gT_Mo 16).1 (gT_Mo 16).2.1 (gT_Mo 16).2.2.1 ∈ wG) (hdg : decode cc pc = .ok (.getfield ix, 3)) (kk : V K (wp (sR g)) M (pc + 3) lv (.int (M 0 16) :: rest)) : V K (wp (sR g)) M pc lv (.ref (ga g 0) :: rest) := v_get h0 hC gW_Mo 0 (show 0 < 22 by decide) (show enR g 0 (M 0) = _ from rfl) rfl 16 (by decide) hl rfl hdg kk
theorem p_Mo_nested_ (h0 : C0 K cc) (hC : Cx (sR g) K own h) {x : Int32} (hl : Cond.fieldLink own ix (gT_Mo 16).1 (gT_Mo 16).2.1 (gT_Mo 16).2.2.1 ∈ wG) (hdg : decode cc pc = .ok (.putfield ix, 3)) (kk : V K (wp (sR g)) (up2 M 0 16 x) (pc + 3) lv rest) : V K (wp (sR g)) M pc lv (.int x :: .ref (ga g 0) :: rest) := v_put h0 hC gW_Mo gU_Mo gO_Mo gN_Mo 0 (show 0 < 22 by decide) (show enR g 0 (M 0) = _ from rfl) rfl 16 (by decide) hl rfl rfl rfl (Nat.le_of_ble_eq_true rfl) _ (show enR g 0 _ = _ from rfl) hdg kk
theorem g_Mo_todoCount_ (h0 : C0 K cc) (hC : Cx (sR g) K own h) (hl : Cond.fieldLink own ix (gT_Mo 17).1 (gT_Mo 17).2.1 (gT_Mo 17).2.2.1 ∈ wG) (hdg : decode cc pc = .ok (.getfield ix, 3)) (kk : V K (wp (sR g)) M (pc + 3) lv (.int (M 0 17) :: rest)) : V K (wp (sR g)) M pc lv (.ref (ga g 0) :: rest) := v_get h0 hC gW_Mo 0 (show 0 < 22 by decide) (show enR g 0 (M 0) = _ from rfl) rfl 17 (by decide) hl rfl hdg kk
theorem p_Mo_todoCount_ (h0 : C0 K cc) (hC : Cx (sR g) K own h) {x : Int32} (hl : Cond.fieldLink own ix (gT_Mo 17).1 (gT_Mo 17).2.1 (gT_Mo 17).2.2.1 ∈ wG) (hdg : decode cc pc = .ok (.putfield ix, 3)) (kk : V K (wp (sR g)) (up2 M 0 17 x) (pc + 3) lv rest) : V K (wp (sR g)) M pc lv (.int x :: .ref (ga g 0) :: rest) := v_put h0 hC gW_Mo gU_Mo gO_Mo gN_Mo 0 (show 0 < 22 by decide) (show enR g 0 (M 0) = _ from rfl) rfl 17 (by decide) hl rfl rfl rfl (Nat.le_of_ble_eq_true rfl) _ (show enR g 0 _ = _ from rfl) hdg kk
theorem g_Mo_bound_ (h0 : C0 K cc) (hC : Cx (sR g) K own h) (hl : Cond.fieldLink own ix (gT_Mo 18).1 (gT_Mo 18).2.1 (gT_Mo 18).2.2.1 ∈ wG) (hdg : decode cc pc = .ok (.getfield ix, 3)) (kk : V K (wp (sR g)) M (pc + 3) lv (.ref (ga g 15) :: rest)) : V K (wp (sR g)) M pc lv (.ref (ga g 0) :: rest) := v_get h0 hC gW_Mo 0 (show 0 < 22 by decide) (show enR g 0 (M 0) = _ from rfl) rfl 18 (by decide) hl rfl hdg kk
theorem g_Mo_types_ (h0 : C0 K cc) (hC : Cx (sR g) K own h) (hl : Cond.fieldLink own ix (gT_Mo 19).1 (gT_Mo 19).2.1 (gT_Mo 19).2.2.1 ∈ wG) (hdg : decode cc pc = .ok (.getfield ix, 3)) (kk : V K (wp (sR g)) M (pc + 3) lv (.ref (ga g 16) :: rest)) : V K (wp (sR g)) M pc lv (.ref (ga g 0) :: rest) := v_get h0 hC gW_Mo 0 (show 0 < 22 by decide) (show enR g 0 (M 0) = _ from rfl) rfl 19 (by decide) hl rfl hdg kk
theorem g_Mo_typeCount_ (h0 : C0 K cc) (hC : Cx (sR g) K own h) (hl : Cond.fieldLink own ix (gT_Mo 20).1 (gT_Mo 20).2.1 (gT_Mo 20).2.2.1 ∈ wG) (hdg : decode cc pc = .ok (.getfield ix, 3)) (kk : V K (wp (sR g)) M (pc + 3) lv (.int (M 0 20) :: rest)) : V K (wp (sR g)) M pc lv (.ref (ga g 0) :: rest) := v_get h0 hC gW_Mo 0 (show 0 < 22 by decide) (show enR g 0 (M 0) = _ from rfl) rfl 20 (by decide) hl rfl hdg kk
theorem p_Mo_typeCount_ (h0 : C0 K cc) (hC : Cx (sR g) K own h) {x : Int32} (hl : Cond.fieldLink own ix (gT_Mo 20).1 (gT_Mo 20).2.1 (gT_Mo 20).2.2.1 ∈ wG) (hdg : decode cc pc = .ok (.putfield ix, 3)) (kk : V K (wp (sR g)) (up2 M 0 20 x) (pc + 3) lv rest) : V K (wp (sR g)) M pc lv (.int x :: .ref (ga g 0) :: rest) := v_put h0 hC gW_Mo gU_Mo gO_Mo gN_Mo 0 (show 0 < 22 by decide) (show enR g 0 (M 0) = _ from rfl) rfl 20 (by decide) hl rfl rfl rfl (Nat.le_of_ble_eq_true rfl) _ (show enR g 0 _ = _ from rfl) hdg kk
theorem g_Mo_cellAt_ (h0 : C0 K cc) (hC : Cx (sR g) K own h) (hl : Cond.fieldLink own ix (gT_Mo 21).1 (gT_Mo 21).2.1 (gT_Mo 21).2.2.1 ∈ wG) (hdg : decode cc pc = .ok (.getfield ix, 3)) (kk : V K (wp (sR g)) M (pc + 3) lv (.ref (ga g 17) :: rest)) : V K (wp (sR g)) M pc lv (.ref (ga g 0) :: rest) := v_get h0 hC gW_Mo 0 (show 0 < 22 by decide) (show enR g 0 (M 0) = _ from rfl) rfl 21 (by decide) hl rfl hdg kk
theorem g_Mo_at_ (h0 : C0 K cc) (hC : Cx (sR g) K own h) (hl : Cond.fieldLink own ix (gT_Mo 22).1 (gT_Mo 22).2.1 (gT_Mo 22).2.2.1 ∈ wG) (hdg : decode cc pc = .ok (.getfield ix, 3)) (kk : V K (wp (sR g)) M (pc + 3) lv (.ref (ga g 18) :: rest)) : V K (wp (sR g)) M pc lv (.ref (ga g 0) :: rest) := v_get h0 hC gW_Mo 0 (show 0 < 22 by decide) (show enR g 0 (M 0) = _ from rfl) rfl 22 (by decide) hl rfl hdg kk
theorem g_Mo_stage_ (h0 : C0 K cc) (hC : Cx (sR g) K own h) (hl : Cond.fieldLink own ix (gT_Mo 23).1 (gT_Mo 23).2.1 (gT_Mo 23).2.2.1 ∈ wG) (hdg : decode cc pc = .ok (.getfield ix, 3)) (kk : V K (wp (sR g)) M (pc + 3) lv (.ref (ga g 19) :: rest)) : V K (wp (sR g)) M pc lv (.ref (ga g 0) :: rest) := v_get h0 hC gW_Mo 0 (show 0 < 22 by decide) (show enR g 0 (M 0) = _ from rfl) rfl 23 (by decide) hl rfl hdg kk
theorem g_Mo_first_ (h0 : C0 K cc) (hC : Cx (sR g) K own h) (hl : Cond.fieldLink own ix (gT_Mo 24).1 (gT_Mo 24).2.1 (gT_Mo 24).2.2.1 ∈ wG) (hdg : decode cc pc = .ok (.getfield ix, 3)) (kk : V K (wp (sR g)) M (pc + 3) lv (.ref (ga g 20) :: rest)) : V K (wp (sR g)) M pc lv (.ref (ga g 0) :: rest) := v_get h0 hC gW_Mo 0 (show 0 < 22 by decide) (show enR g 0 (M 0) = _ from rfl) rfl 24 (by decide) hl rfl hdg kk
theorem g_Mo_open_ (h0 : C0 K cc) (hC : Cx (sR g) K own h) (hl : Cond.fieldLink own ix (gT_Mo 25).1 (gT_Mo 25).2.1 (gT_Mo 25).2.2.1 ∈ wG) (hdg : decode cc pc = .ok (.getfield ix, 3)) (kk : V K (wp (sR g)) M (pc + 3) lv (.int (M 0 25) :: rest)) : V K (wp (sR g)) M pc lv (.ref (ga g 0) :: rest) := v_get h0 hC gW_Mo 0 (show 0 < 22 by decide) (show enR g 0 (M 0) = _ from rfl) rfl 25 (by decide) hl rfl hdg kk
theorem p_Mo_open_ (h0 : C0 K cc) (hC : Cx (sR g) K own h) {x : Int32} (hl : Cond.fieldLink own ix (gT_Mo 25).1 (gT_Mo 25).2.1 (gT_Mo 25).2.2.1 ∈ wG) (hdg : decode cc pc = .ok (.putfield ix, 3)) (kk : V K (wp (sR g)) (up2 M 0 25 x) (pc + 3) lv rest) : V K (wp (sR g)) M pc lv (.int x :: .ref (ga g 0) :: rest) := v_put h0 hC gW_Mo gU_Mo gO_Mo gN_Mo 0 (show 0 < 22 by decide) (show enR g 0 (M 0) = _ from rfl) rfl 25 (by decide) hl rfl rfl rfl (Nat.le_of_ble_eq_true rfl) _ (show enR g 0 _ = _ from rfl) hdg kk
theorem g_Mo_local_ (h0 : C0 K cc) (hC : Cx (sR g) K own h) (hl : Cond.fieldLink own ix (gT_Mo 26).1 (gT_Mo 26).2.1 (gT_Mo 26).2.2.1 ∈ wG) (hdg : decode cc pc = .ok (.getfield ix, 3)) (kk : V K (wp (sR g)) M (pc + 3) lv (.ref (ga g 21) :: rest)) : V K (wp (sR g)) M pc lv (.ref (ga g 0) :: rest) := v_get h0 hC gW_Mo 0 (show 0 < 22 by decide) (show enR g 0 (M 0) = _ from rfl) rfl 26 (by decide) hl rfl hdg kk
theorem g_Mo_depth_ (h0 : C0 K cc) (hC : Cx (sR g) K own h) (hl : Cond.fieldLink own ix (gT_Mo 27).1 (gT_Mo 27).2.1 (gT_Mo 27).2.2.1 ∈ wG) (hdg : decode cc pc = .ok (.getfield ix, 3)) (kk : V K (wp (sR g)) M (pc + 3) lv (.int (M 0 27) :: rest)) : V K (wp (sR g)) M pc lv (.ref (ga g 0) :: rest) := v_get h0 hC gW_Mo 0 (show 0 < 22 by decide) (show enR g 0 (M 0) = _ from rfl) rfl 27 (by decide) hl rfl hdg kk
theorem p_Mo_depth_ (h0 : C0 K cc) (hC : Cx (sR g) K own h) {x : Int32} (hl : Cond.fieldLink own ix (gT_Mo 27).1 (gT_Mo 27).2.1 (gT_Mo 27).2.2.1 ∈ wG) (hdg : decode cc pc = .ok (.putfield ix, 3)) (kk : V K (wp (sR g)) (up2 M 0 27 x) (pc + 3) lv rest) : V K (wp (sR g)) M pc lv (.int x :: .ref (ga g 0) :: rest) := v_put h0 hC gW_Mo gU_Mo gO_Mo gN_Mo 0 (show 0 < 22 by decide) (show enR g 0 (M 0) = _ from rfl) rfl 27 (by decide) hl rfl rfl rfl (Nat.le_of_ble_eq_true rfl) _ (show enR g 0 _ = _ from rfl) hdg kk
theorem g_Mo_fuel_ (h0 : C0 K cc) (hC : Cx (sR g) K own h) (hl : Cond.fieldLink own ix (gT_Mo 28).1 (gT_Mo 28).2.1 (gT_Mo 28).2.2.1 ∈ wG) (hdg : decode cc pc = .ok (.getfield ix, 3)) (kk : V K (wp (sR g)) M (pc + 3) lv (.int (M 0 28) :: rest)) : V K (wp (sR g)) M pc lv (.ref (ga g 0) :: rest) := v_get h0 hC gW_Mo 0 (show 0 < 22 by decide) (show enR g 0 (M 0) = _ from rfl) rfl 28 (by decide) hl rfl hdg kk
theorem p_Mo_fuel_ (h0 : C0 K cc) (hC : Cx (sR g) K own h) {x : Int32} (hl : Cond.fieldLink own ix (gT_Mo 28).1 (gT_Mo 28).2.1 (gT_Mo 28).2.2.1 ∈ wG) (hdg : decode cc pc = .ok (.putfield ix, 3)) (kk : V K (wp (sR g)) (up2 M 0 28 x) (pc + 3) lv rest) : V K (wp (sR g)) M pc lv (.int x :: .ref (ga g 0) :: rest) := v_put h0 hC gW_Mo gU_Mo gO_Mo gN_Mo 0 (show 0 < 22 by decide) (show enR g 0 (M 0) = _ from rfl) rfl 28 (by decide) hl rfl rfl rfl (Nat.le_of_ble_eq_true rfl) _ (show enR g 0 _ = _ from rfl) hdg kk
theorem g_Mo_out_ (h0 : C0 K cc) (hC : Cx (sR g) K own h) (hl : Cond.fieldLink own ix (gT_Mo 29).1 (gT_Mo 29).2.1 (gT_Mo 29).2.2.1 ∈ wG) (hdg : decode cc pc = .ok (.getfield ix, 3)) (kk : V K (wp (sR g)) M (pc + 3) lv (.int (M 0 29) :: rest)) : V K (wp (sR g)) M pc lv (.ref (ga g 0) :: rest) := v_get h0 hC gW_Mo 0 (show 0 < 22 by decide) (show enR g 0 (M 0) = _ from rfl) rfl 29 (by decide) hl rfl hdg kk
theorem p_Mo_out_ (h0 : C0 K cc) (hC : Cx (sR g) K own h) {x : Int32} (hl : Cond.fieldLink own ix (gT_Mo 29).1 (gT_Mo 29).2.1 (gT_Mo 29).2.2.1 ∈ wG) (hdg : decode cc pc = .ok (.putfield ix, 3)) (kk : V K (wp (sR g)) (up2 M 0 29 x) (pc + 3) lv rest) : V K (wp (sR g)) M pc lv (.int x :: .ref (ga g 0) :: rest) := v_put h0 hC gW_Mo gU_Mo gO_Mo gN_Mo 0 (show 0 < 22 by decide) (show enR g 0 (M 0) = _ from rfl) rfl 29 (by decide) hl rfl rfl rfl (Nat.le_of_ble_eq_true rfl) _ (show enR g 0 _ = _ from rfl) hdg kk
theorem g_Mo_error_ (h0 : C0 K cc) (hC : Cx (sR g) K own h) (hl : Cond.fieldLink own ix (gT_Mo 30).1 (gT_Mo 30).2.1 (gT_Mo 30).2.2.1 ∈ wG) (hdg : decode cc pc = .ok (.getfield ix, 3)) (kk : V K (wp (sR g)) M (pc + 3) lv (.int (M 0 30) :: rest)) : V K (wp (sR g)) M pc lv (.ref (ga g 0) :: rest) := v_get h0 hC gW_Mo 0 (show 0 < 22 by decide) (show enR g 0 (M 0) = _ from rfl) rfl 30 (by decide) hl rfl hdg kk
theorem p_Mo_error_ (h0 : C0 K cc) (hC : Cx (sR g) K own h) {x : Int32} (hl : Cond.fieldLink own ix (gT_Mo 30).1 (gT_Mo 30).2.1 (gT_Mo 30).2.2.1 ∈ wG) (hdg : decode cc pc = .ok (.putfield ix, 3)) (kk : V K (wp (sR g)) (up2 M 0 30 x) (pc + 3) lv rest) : V K (wp (sR g)) M pc lv (.int x :: .ref (ga g 0) :: rest) := v_put h0 hC gW_Mo gU_Mo gO_Mo gN_Mo 0 (show 0 < 22 by decide) (show enR g 0 (M 0) = _ from rfl) rfl 30 (by decide) hl rfl rfl rfl (Nat.le_of_ble_eq_true rfl) _ (show enR g 0 _ = _ from rfl) hdg kk
theorem a_Mo_typed_ (h0 : C0 K cc) (hC : Cx (sR g) K own h) {x : Int32} (j : Nat) (hx : x = nI j) (hj : j < 24) (hdg : decode cc pc = .ok (.caload, 1)) (kk : V K (wp (sR g)) M (pc + 1) lv (.int (M 1 j) :: rest)) : V K (wp (sR g)) M pc lv (.int x :: .ref (ga g 1) :: rest) := v_cald h0 hC 1 (show 1 < 22 by decide) (show enR g 1 (M 1) = _ from rfl) 0 rfl j hx hj (by decide) hdg kk
theorem s_Mo_typed_ (h0 : C0 K cc) (hC : Cx (sR g) K own h) {x y z : Int32} (j : Nat) (hy : y = nI j) (hz : (vp_nar .char x) = z) (hj : j < 24) (hdg : decode cc pc = .ok (.castore, 1)) (kk : V K (wp (sR g)) (up2 M 1 j z) (pc + 1) lv rest) : V K (wp (sR g)) M pc lv (.int x :: .int y :: .ref (ga g 1) :: rest) := v_cast h0 hC 1 (show 1 < 22 by decide) (fun _ => rfl) 0 rfl j hy hz hj (by decide) hdg kk
theorem a_Mo_text_ (h0 : C0 K cc) (hC : Cx (sR g) K own h) {x : Int32} (j : Nat) (hx : x = nI j) (hj : j < 240) (hdg : decode cc pc = .ok (.caload, 1)) (kk : V K (wp (sR g)) M (pc + 1) lv (.int (M 2 j) :: rest)) : V K (wp (sR g)) M pc lv (.int x :: .ref (ga g 2) :: rest) := v_cald h0 hC 2 (show 2 < 22 by decide) (show enR g 2 (M 2) = _ from rfl) 0 rfl j hx hj (by decide) hdg kk
theorem s_Mo_text_ (h0 : C0 K cc) (hC : Cx (sR g) K own h) {x y z : Int32} (j : Nat) (hy : y = nI j) (hz : (vp_nar .char x) = z) (hj : j < 240) (hdg : decode cc pc = .ok (.castore, 1)) (kk : V K (wp (sR g)) (up2 M 2 j z) (pc + 1) lv rest) : V K (wp (sR g)) M pc lv (.int x :: .int y :: .ref (ga g 2) :: rest) := v_cast h0 hC 2 (show 2 < 22 by decide) (fun _ => rfl) 0 rfl j hy hz hj (by decide) hdg kk
theorem a_Mo_length_ (h0 : C0 K cc) (hC : Cx (sR g) K own h) {x : Int32} (j : Nat) (hx : x = nI j) (hj : j < 10) (hdg : decode cc pc = .ok (.iaload, 1)) (kk : V K (wp (sR g)) M (pc + 1) lv (.int (M 3 j) :: rest)) : V K (wp (sR g)) M pc lv (.int x :: .ref (ga g 3) :: rest) := v_iald h0 hC 3 (show 3 < 22 by decide) (show enR g 3 (M 3) = _ from rfl) 1 rfl j hx hj (by decide) hdg kk
theorem s_Mo_length_ (h0 : C0 K cc) (hC : Cx (sR g) K own h) {x y z : Int32} (j : Nat) (hy : y = nI j) (hz : x = z) (hj : j < 10) (hdg : decode cc pc = .ok (.iastore, 1)) (kk : V K (wp (sR g)) (up2 M 3 j z) (pc + 1) lv rest) : V K (wp (sR g)) M pc lv (.int x :: .int y :: .ref (ga g 3) :: rest) := v_iast h0 hC 3 (show 3 < 22 by decide) (fun _ => rfl) 1 rfl j hy hz hj (by decide) hdg kk
theorem a_Mo_named_ (h0 : C0 K cc) (hC : Cx (sR g) K own h) {x : Int32} (j : Nat) (hx : x = nI j) (hj : j < 10) (hdg : decode cc pc = .ok (.iaload, 1)) (kk : V K (wp (sR g)) M (pc + 1) lv (.int (M 4 j) :: rest)) : V K (wp (sR g)) M pc lv (.int x :: .ref (ga g 4) :: rest) := v_iald h0 hC 4 (show 4 < 22 by decide) (show enR g 4 (M 4) = _ from rfl) 1 rfl j hx hj (by decide) hdg kk
theorem s_Mo_named_ (h0 : C0 K cc) (hC : Cx (sR g) K own h) {x y z : Int32} (j : Nat) (hy : y = nI j) (hz : x = z) (hj : j < 10) (hdg : decode cc pc = .ok (.iastore, 1)) (kk : V K (wp (sR g)) (up2 M 4 j z) (pc + 1) lv rest) : V K (wp (sR g)) M pc lv (.int x :: .int y :: .ref (ga g 4) :: rest) := v_iast h0 hC 4 (show 4 < 22 by decide) (fun _ => rfl) 1 rfl j hy hz hj (by decide) hdg kk
theorem a_Mo_end_ (h0 : C0 K cc) (hC : Cx (sR g) K own h) {x : Int32} (j : Nat) (hx : x = nI j) (hj : j < 240) (hdg : decode cc pc = .ok (.iaload, 1)) (kk : V K (wp (sR g)) M (pc + 1) lv (.int (M 5 j) :: rest)) : V K (wp (sR g)) M pc lv (.int x :: .ref (ga g 5) :: rest) := v_iald h0 hC 5 (show 5 < 22 by decide) (show enR g 5 (M 5) = _ from rfl) 1 rfl j hx hj (by decide) hdg kk
theorem s_Mo_end_ (h0 : C0 K cc) (hC : Cx (sR g) K own h) {x y z : Int32} (j : Nat) (hy : y = nI j) (hz : x = z) (hj : j < 240) (hdg : decode cc pc = .ok (.iastore, 1)) (kk : V K (wp (sR g)) (up2 M 5 j z) (pc + 1) lv rest) : V K (wp (sR g)) M pc lv (.int x :: .int y :: .ref (ga g 5) :: rest) := v_iast h0 hC 5 (show 5 < 22 by decide) (fun _ => rfl) 1 rfl j hy hz hj (by decide) hdg kk
theorem a_Mo_label_ (h0 : C0 K cc) (hC : Cx (sR g) K own h) {x : Int32} (j : Nat) (hx : x = nI j) (hj : j < 240) (hdg : decode cc pc = .ok (.baload, 1)) (kk : V K (wp (sR g)) M (pc + 1) lv (.int (M 6 j) :: rest)) : V K (wp (sR g)) M pc lv (.int x :: .ref (ga g 6) :: rest) := v_zald h0 hC 6 (show 6 < 22 by decide) (show enR g 6 (M 6) = _ from rfl) 2 rfl j hx hj (by decide) hdg kk
theorem s_Mo_label_ (h0 : C0 K cc) (hC : Cx (sR g) K own h) {x y z : Int32} (j : Nat) (hy : y = nI j) (hz : (vp_nar .boolean x) = z) (hj : j < 240) (hdg : decode cc pc = .ok (.bastore, 1)) (kk : V K (wp (sR g)) (up2 M 6 j z) (pc + 1) lv rest) : V K (wp (sR g)) M pc lv (.int x :: .int y :: .ref (ga g 6) :: rest) := v_zast h0 hC 6 (show 6 < 22 by decide) (fun _ => rfl) 2 rfl j hy hz hj (by decide) hdg kk
theorem a_Mo_well_ (h0 : C0 K cc) (hC : Cx (sR g) K own h) {x : Int32} (j : Nat) (hx : x = nI j) (hj : j < 10) (hdg : decode cc pc = .ok (.baload, 1)) (kk : V K (wp (sR g)) M (pc + 1) lv (.int (M 7 j) :: rest)) : V K (wp (sR g)) M pc lv (.int x :: .ref (ga g 7) :: rest) := v_zald h0 hC 7 (show 7 < 22 by decide) (show enR g 7 (M 7) = _ from rfl) 2 rfl j hx hj (by decide) hdg kk
theorem s_Mo_well_ (h0 : C0 K cc) (hC : Cx (sR g) K own h) {x y z : Int32} (j : Nat) (hy : y = nI j) (hz : (vp_nar .boolean x) = z) (hj : j < 10) (hdg : decode cc pc = .ok (.bastore, 1)) (kk : V K (wp (sR g)) (up2 M 7 j z) (pc + 1) lv rest) : V K (wp (sR g)) M pc lv (.int x :: .int y :: .ref (ga g 7) :: rest) := v_zast h0 hC 7 (show 7 < 22 by decide) (fun _ => rfl) 2 rfl j hy hz hj (by decide) hdg kk
theorem a_Mo_used_ (h0 : C0 K cc) (hC : Cx (sR g) K own h) {x : Int32} (j : Nat) (hx : x = nI j) (hj : j < 10) (hdg : decode cc pc = .ok (.iaload, 1)) (kk : V K (wp (sR g)) M (pc + 1) lv (.int (M 8 j) :: rest)) : V K (wp (sR g)) M pc lv (.int x :: .ref (ga g 8) :: rest) := v_iald h0 hC 8 (show 8 < 22 by decide) (show enR g 8 (M 8) = _ from rfl) 1 rfl j hx hj (by decide) hdg kk
theorem s_Mo_used_ (h0 : C0 K cc) (hC : Cx (sR g) K own h) {x y z : Int32} (j : Nat) (hy : y = nI j) (hz : x = z) (hj : j < 10) (hdg : decode cc pc = .ok (.iastore, 1)) (kk : V K (wp (sR g)) (up2 M 8 j z) (pc + 1) lv rest) : V K (wp (sR g)) M pc lv (.int x :: .int y :: .ref (ga g 8) :: rest) := v_iast h0 hC 8 (show 8 < 22 by decide) (fun _ => rfl) 1 rfl j hy hz hj (by decide) hdg kk
theorem a_Mo_stale_ (h0 : C0 K cc) (hC : Cx (sR g) K own h) {x : Int32} (j : Nat) (hx : x = nI j) (hj : j < 10) (hdg : decode cc pc = .ok (.baload, 1)) (kk : V K (wp (sR g)) M (pc + 1) lv (.int (M 9 j) :: rest)) : V K (wp (sR g)) M pc lv (.int x :: .ref (ga g 9) :: rest) := v_zald h0 hC 9 (show 9 < 22 by decide) (show enR g 9 (M 9) = _ from rfl) 2 rfl j hx hj (by decide) hdg kk
theorem s_Mo_stale_ (h0 : C0 K cc) (hC : Cx (sR g) K own h) {x y z : Int32} (j : Nat) (hy : y = nI j) (hz : (vp_nar .boolean x) = z) (hj : j < 10) (hdg : decode cc pc = .ok (.bastore, 1)) (kk : V K (wp (sR g)) (up2 M 9 j z) (pc + 1) lv rest) : V K (wp (sR g)) M pc lv (.int x :: .int y :: .ref (ga g 9) :: rest) := v_zast h0 hC 9 (show 9 < 22 by decide) (fun _ => rfl) 2 rfl j hy hz hj (by decide) hdg kk
theorem a_Mo_result_ (h0 : C0 K cc) (hC : Cx (sR g) K own h) {x : Int32} (j : Nat) (hx : x = nI j) (hj : j < 10) (hdg : decode cc pc = .ok (.iaload, 1)) (kk : V K (wp (sR g)) M (pc + 1) lv (.int (M 10 j) :: rest)) : V K (wp (sR g)) M pc lv (.int x :: .ref (ga g 10) :: rest) := v_iald h0 hC 10 (show 10 < 22 by decide) (show enR g 10 (M 10) = _ from rfl) 1 rfl j hx hj (by decide) hdg kk
theorem s_Mo_result_ (h0 : C0 K cc) (hC : Cx (sR g) K own h) {x y z : Int32} (j : Nat) (hy : y = nI j) (hz : x = z) (hj : j < 10) (hdg : decode cc pc = .ok (.iastore, 1)) (kk : V K (wp (sR g)) (up2 M 10 j z) (pc + 1) lv rest) : V K (wp (sR g)) M pc lv (.int x :: .int y :: .ref (ga g 10) :: rest) := v_iast h0 hC 10 (show 10 < 22 by decide) (fun _ => rfl) 1 rfl j hy hz hj (by decide) hdg kk
theorem a_Mo_valueOf_ (h0 : C0 K cc) (hC : Cx (sR g) K own h) {x : Int32} (j : Nat) (hx : x = nI j) (hj : j < 10) (hdg : decode cc pc = .ok (.iaload, 1)) (kk : V K (wp (sR g)) M (pc + 1) lv (.int (M 11 j) :: rest)) : V K (wp (sR g)) M pc lv (.int x :: .ref (ga g 11) :: rest) := v_iald h0 hC 11 (show 11 < 22 by decide) (show enR g 11 (M 11) = _ from rfl) 1 rfl j hx hj (by decide) hdg kk
theorem s_Mo_valueOf_ (h0 : C0 K cc) (hC : Cx (sR g) K own h) {x y z : Int32} (j : Nat) (hy : y = nI j) (hz : x = z) (hj : j < 10) (hdg : decode cc pc = .ok (.iastore, 1)) (kk : V K (wp (sR g)) (up2 M 11 j z) (pc + 1) lv rest) : V K (wp (sR g)) M pc lv (.int x :: .int y :: .ref (ga g 11) :: rest) := v_iast h0 hC 11 (show 11 < 22 by decide) (fun _ => rfl) 1 rfl j hy hz hj (by decide) hdg kk
theorem a_Mo_kindOf_ (h0 : C0 K cc) (hC : Cx (sR g) K own h) {x : Int32} (j : Nat) (hx : x = nI j) (hj : j < 10) (hdg : decode cc pc = .ok (.iaload, 1)) (kk : V K (wp (sR g)) M (pc + 1) lv (.int (M 12 j) :: rest)) : V K (wp (sR g)) M pc lv (.int x :: .ref (ga g 12) :: rest) := v_iald h0 hC 12 (show 12 < 22 by decide) (show enR g 12 (M 12) = _ from rfl) 1 rfl j hx hj (by decide) hdg kk
theorem s_Mo_kindOf_ (h0 : C0 K cc) (hC : Cx (sR g) K own h) {x y z : Int32} (j : Nat) (hy : y = nI j) (hz : x = z) (hj : j < 10) (hdg : decode cc pc = .ok (.iastore, 1)) (kk : V K (wp (sR g)) (up2 M 12 j z) (pc + 1) lv rest) : V K (wp (sR g)) M pc lv (.int x :: .int y :: .ref (ga g 12) :: rest) := v_iast h0 hC 12 (show 12 < 22 by decide) (fun _ => rfl) 1 rfl j hy hz hj (by decide) hdg kk
theorem a_Mo_runsOf_ (h0 : C0 K cc) (hC : Cx (sR g) K own h) {x : Int32} (j : Nat) (hx : x = nI j) (hj : j < 10) (hdg : decode cc pc = .ok (.iaload, 1)) (kk : V K (wp (sR g)) M (pc + 1) lv (.int (M 13 j) :: rest)) : V K (wp (sR g)) M pc lv (.int x :: .ref (ga g 13) :: rest) := v_iald h0 hC 13 (show 13 < 22 by decide) (show enR g 13 (M 13) = _ from rfl) 1 rfl j hx hj (by decide) hdg kk
theorem s_Mo_runsOf_ (h0 : C0 K cc) (hC : Cx (sR g) K own h) {x y z : Int32} (j : Nat) (hy : y = nI j) (hz : x = z) (hj : j < 10) (hdg : decode cc pc = .ok (.iastore, 1)) (kk : V K (wp (sR g)) (up2 M 13 j z) (pc + 1) lv rest) : V K (wp (sR g)) M pc lv (.int x :: .int y :: .ref (ga g 13) :: rest) := v_iast h0 hC 13 (show 13 < 22 by decide) (fun _ => rfl) 1 rfl j hy hz hj (by decide) hdg kk
theorem a_Mo_todo_ (h0 : C0 K cc) (hC : Cx (sR g) K own h) {x : Int32} (j : Nat) (hx : x = nI j) (hj : j < 160) (hdg : decode cc pc = .ok (.iaload, 1)) (kk : V K (wp (sR g)) M (pc + 1) lv (.int (M 14 j) :: rest)) : V K (wp (sR g)) M pc lv (.int x :: .ref (ga g 14) :: rest) := v_iald h0 hC 14 (show 14 < 22 by decide) (show enR g 14 (M 14) = _ from rfl) 1 rfl j hx hj (by decide) hdg kk
theorem s_Mo_todo_ (h0 : C0 K cc) (hC : Cx (sR g) K own h) {x y z : Int32} (j : Nat) (hy : y = nI j) (hz : x = z) (hj : j < 160) (hdg : decode cc pc = .ok (.iastore, 1)) (kk : V K (wp (sR g)) (up2 M 14 j z) (pc + 1) lv rest) : V K (wp (sR g)) M pc lv (.int x :: .int y :: .ref (ga g 14) :: rest) := v_iast h0 hC 14 (show 14 < 22 by decide) (fun _ => rfl) 1 rfl j hy hz hj (by decide) hdg kk
theorem a_Mo_bound_ (h0 : C0 K cc) (hC : Cx (sR g) K own h) {x : Int32} (j : Nat) (hx : x = nI j) (hj : j < 6) (hdg : decode cc pc = .ok (.iaload, 1)) (kk : V K (wp (sR g)) M (pc + 1) lv (.int (M 15 j) :: rest)) : V K (wp (sR g)) M pc lv (.int x :: .ref (ga g 15) :: rest) := v_iald h0 hC 15 (show 15 < 22 by decide) (show enR g 15 (M 15) = _ from rfl) 1 rfl j hx hj (by decide) hdg kk
theorem s_Mo_bound_ (h0 : C0 K cc) (hC : Cx (sR g) K own h) {x y z : Int32} (j : Nat) (hy : y = nI j) (hz : x = z) (hj : j < 6) (hdg : decode cc pc = .ok (.iastore, 1)) (kk : V K (wp (sR g)) (up2 M 15 j z) (pc + 1) lv rest) : V K (wp (sR g)) M pc lv (.int x :: .int y :: .ref (ga g 15) :: rest) := v_iast h0 hC 15 (show 15 < 22 by decide) (fun _ => rfl) 1 rfl j hy hz hj (by decide) hdg kk
theorem a_Mo_types_ (h0 : C0 K cc) (hC : Cx (sR g) K own h) {x : Int32} (j : Nat) (hx : x = nI j) (hj : j < 30) (hdg : decode cc pc = .ok (.iaload, 1)) (kk : V K (wp (sR g)) M (pc + 1) lv (.int (M 16 j) :: rest)) : V K (wp (sR g)) M pc lv (.int x :: .ref (ga g 16) :: rest) := v_iald h0 hC 16 (show 16 < 22 by decide) (show enR g 16 (M 16) = _ from rfl) 1 rfl j hx hj (by decide) hdg kk
theorem s_Mo_types_ (h0 : C0 K cc) (hC : Cx (sR g) K own h) {x y z : Int32} (j : Nat) (hy : y = nI j) (hz : x = z) (hj : j < 30) (hdg : decode cc pc = .ok (.iastore, 1)) (kk : V K (wp (sR g)) (up2 M 16 j z) (pc + 1) lv rest) : V K (wp (sR g)) M pc lv (.int x :: .int y :: .ref (ga g 16) :: rest) := v_iast h0 hC 16 (show 16 < 22 by decide) (fun _ => rfl) 1 rfl j hy hz hj (by decide) hdg kk
theorem a_Mo_cellAt_ (h0 : C0 K cc) (hC : Cx (sR g) K own h) {x : Int32} (j : Nat) (hx : x = nI j) (hj : j < 320) (hdg : decode cc pc = .ok (.iaload, 1)) (kk : V K (wp (sR g)) M (pc + 1) lv (.int (M 17 j) :: rest)) : V K (wp (sR g)) M pc lv (.int x :: .ref (ga g 17) :: rest) := v_iald h0 hC 17 (show 17 < 22 by decide) (show enR g 17 (M 17) = _ from rfl) 1 rfl j hx hj (by decide) hdg kk
theorem s_Mo_cellAt_ (h0 : C0 K cc) (hC : Cx (sR g) K own h) {x y z : Int32} (j : Nat) (hy : y = nI j) (hz : x = z) (hj : j < 320) (hdg : decode cc pc = .ok (.iastore, 1)) (kk : V K (wp (sR g)) (up2 M 17 j z) (pc + 1) lv rest) : V K (wp (sR g)) M pc lv (.int x :: .int y :: .ref (ga g 17) :: rest) := v_iast h0 hC 17 (show 17 < 22 by decide) (fun _ => rfl) 1 rfl j hy hz hj (by decide) hdg kk
theorem a_Mo_at_ (h0 : C0 K cc) (hC : Cx (sR g) K own h) {x : Int32} (j : Nat) (hx : x = nI j) (hj : j < 320) (hdg : decode cc pc = .ok (.iaload, 1)) (kk : V K (wp (sR g)) M (pc + 1) lv (.int (M 18 j) :: rest)) : V K (wp (sR g)) M pc lv (.int x :: .ref (ga g 18) :: rest) := v_iald h0 hC 18 (show 18 < 22 by decide) (show enR g 18 (M 18) = _ from rfl) 1 rfl j hx hj (by decide) hdg kk
theorem s_Mo_at_ (h0 : C0 K cc) (hC : Cx (sR g) K own h) {x y z : Int32} (j : Nat) (hy : y = nI j) (hz : x = z) (hj : j < 320) (hdg : decode cc pc = .ok (.iastore, 1)) (kk : V K (wp (sR g)) (up2 M 18 j z) (pc + 1) lv rest) : V K (wp (sR g)) M pc lv (.int x :: .int y :: .ref (ga g 18) :: rest) := v_iast h0 hC 18 (show 18 < 22 by decide) (fun _ => rfl) 1 rfl j hy hz hj (by decide) hdg kk
theorem a_Mo_stage_ (h0 : C0 K cc) (hC : Cx (sR g) K own h) {x : Int32} (j : Nat) (hx : x = nI j) (hj : j < 320) (hdg : decode cc pc = .ok (.iaload, 1)) (kk : V K (wp (sR g)) M (pc + 1) lv (.int (M 19 j) :: rest)) : V K (wp (sR g)) M pc lv (.int x :: .ref (ga g 19) :: rest) := v_iald h0 hC 19 (show 19 < 22 by decide) (show enR g 19 (M 19) = _ from rfl) 1 rfl j hx hj (by decide) hdg kk
theorem s_Mo_stage_ (h0 : C0 K cc) (hC : Cx (sR g) K own h) {x y z : Int32} (j : Nat) (hy : y = nI j) (hz : x = z) (hj : j < 320) (hdg : decode cc pc = .ok (.iastore, 1)) (kk : V K (wp (sR g)) (up2 M 19 j z) (pc + 1) lv rest) : V K (wp (sR g)) M pc lv (.int x :: .int y :: .ref (ga g 19) :: rest) := v_iast h0 hC 19 (show 19 < 22 by decide) (fun _ => rfl) 1 rfl j hy hz hj (by decide) hdg kk
theorem a_Mo_first_ (h0 : C0 K cc) (hC : Cx (sR g) K own h) {x : Int32} (j : Nat) (hx : x = nI j) (hj : j < 320) (hdg : decode cc pc = .ok (.iaload, 1)) (kk : V K (wp (sR g)) M (pc + 1) lv (.int (M 20 j) :: rest)) : V K (wp (sR g)) M pc lv (.int x :: .ref (ga g 20) :: rest) := v_iald h0 hC 20 (show 20 < 22 by decide) (show enR g 20 (M 20) = _ from rfl) 1 rfl j hx hj (by decide) hdg kk
theorem s_Mo_first_ (h0 : C0 K cc) (hC : Cx (sR g) K own h) {x y z : Int32} (j : Nat) (hy : y = nI j) (hz : x = z) (hj : j < 320) (hdg : decode cc pc = .ok (.iastore, 1)) (kk : V K (wp (sR g)) (up2 M 20 j z) (pc + 1) lv rest) : V K (wp (sR g)) M pc lv (.int x :: .int y :: .ref (ga g 20) :: rest) := v_iast h0 hC 20 (show 20 < 22 by decide) (fun _ => rfl) 1 rfl j hy hz hj (by decide) hdg kk
theorem a_Mo_local_ (h0 : C0 K cc) (hC : Cx (sR g) K own h) {x : Int32} (j : Nat) (hx : x = nI j) (hj : j < 36) (hdg : decode cc pc = .ok (.iaload, 1)) (kk : V K (wp (sR g)) M (pc + 1) lv (.int (M 21 j) :: rest)) : V K (wp (sR g)) M pc lv (.int x :: .ref (ga g 21) :: rest) := v_iald h0 hC 21 (show 21 < 22 by decide) (show enR g 21 (M 21) = _ from rfl) 1 rfl j hx hj (by decide) hdg kk
theorem s_Mo_local_ (h0 : C0 K cc) (hC : Cx (sR g) K own h) {x y z : Int32} (j : Nat) (hy : y = nI j) (hz : x = z) (hj : j < 36) (hdg : decode cc pc = .ok (.iastore, 1)) (kk : V K (wp (sR g)) (up2 M 21 j z) (pc + 1) lv rest) : V K (wp (sR g)) M pc lv (.int x :: .int y :: .ref (ga g 21) :: rest) := v_iast h0 hC 21 (show 21 < 22 by decide) (fun _ => rfl) 1 rfl j hy hz hj (by decide) hdg kk
end RW
end
section
/-! MORE ROWS: numbers that are Nat, answers that are Bool, answers of calls -/
def bI (b : Bool) : Int32 := if b = true then 1 else 0
theorem bI_t : bI true = 1 := rfl
theorem bI_f : bI false = 0 := rfl
theorem bI_01 (b : Bool) : bI b = 0 ∨ bI b = 1 := by cases b; exact Or.inl rfl; exact Or.inr rfl
theorem bI_0 {b : Bool} : bI b = 0 ↔ b = false := by cases b <;> simp [bI] <;> decide
theorem bI_1 {b : Bool} : bI b = 1 ↔ b = true := by cases b <;> simp [bI] <;> decide
theorem inc1 (i : Nat) : nI i + Int32.ofInt 1 = nI (i + 1) := nI_1 i
theorem lt_kn {K : Cf} {i n : Nat} (h : kn K = n) (hi : i < n) : i < kn K := by rw [h]; exact hi
theorem v_r1 {σ : Type} {K : Cf} {wp : σ → Heap → Prop} {M : σ} {pc : Nat} {lv : List (Nat × Value)} {rest : List Value} {v : Value} (k : V K wp M pc lv (v :: rest)) : V K wp M pc lv ((some v).toList ++ rest) := k
theorem v_r0 {σ : Type} {K : Cf} {wp : σ → Heap → Prop} {M : σ} {pc : Nat} {lv : List (Nat × Value)} {rest : List Value} (k : V K wp M pc lv rest) : V K wp M pc lv ((none : Option Value).toList ++ rest) := k
theorem n_icmp_eq {σ : Type} {K : Cf} {wp : σ → Heap → Prop} {M : σ} {cc : ByteArray} {pc : Nat} {lv : List (Nat × Value)} {rest : List Value} (h0 : C0 K cc) {a b : Nat} {off : Int} {tgt : Nat} (ha : a < 2 ^ 31) (hb : b < 2 ^ 31) (hdg : decode cc pc = .ok (.if_icmp .eq off, 3)) (ht : (pc : Int) + off = (tgt : Int)) (kt : a = b → V K wp M tgt lv rest) (kf : ¬ a = b → V K wp M (pc + 3) lv rest) : V K wp M pc lv (.int (nI b) :: .int (nI a) :: rest) := v_icmp_eq h0 hdg ht (fun h9 => kt ((nI_eq ha hb).mp h9)) (fun h9 => kf (fun q9 => h9 ((nI_eq ha hb).mpr q9)))
theorem n_icmp_ne {σ : Type} {K : Cf} {wp : σ → Heap → Prop} {M : σ} {cc : ByteArray} {pc : Nat} {lv : List (Nat × Value)} {rest : List Value} (h0 : C0 K cc) {a b : Nat} {off : Int} {tgt : Nat} (ha : a < 2 ^ 31) (hb : b < 2 ^ 31) (hdg : decode cc pc = .ok (.if_icmp .ne off, 3)) (ht : (pc : Int) + off = (tgt : Int)) (kt : ¬ a = b → V K wp M tgt lv rest) (kf : a = b → V K wp M (pc + 3) lv rest) : V K wp M pc lv (.int (nI b) :: .int (nI a) :: rest) := v_icmp_ne h0 hdg ht (fun h9 => kt (fun q9 => h9 ((nI_eq ha hb).mpr q9))) (fun h9 => kf ((nI_eq ha hb).mp h9))
theorem n_icmp_lt {σ : Type} {K : Cf} {wp : σ → Heap → Prop} {M : σ} {cc : ByteArray} {pc : Nat} {lv : List (Nat × Value)} {rest : List Value} (h0 : C0 K cc) {a b : Nat} {off : Int} {tgt : Nat} (ha : a < 2 ^ 31) (hb : b < 2 ^ 31) (hdg : decode cc pc = .ok (.if_icmp .lt off, 3)) (ht : (pc : Int) + off = (tgt : Int)) (kt : a < b → V K wp M tgt lv rest) (kf : b ≤ a → V K wp M (pc + 3) lv rest) : V K wp M pc lv (.int (nI b) :: .int (nI a) :: rest) := v_icmp_lt h0 hdg ht (fun h9 => kt ((nI_ltI ha hb).mp h9)) (fun h9 => kf (Nat.not_lt.mp (fun q9 => h9 ((nI_ltI ha hb).mpr q9))))
theorem n_icmp_ge {σ : Type} {K : Cf} {wp : σ → Heap → Prop} {M : σ} {cc : ByteArray} {pc : Nat} {lv : List (Nat × Value)} {rest : List Value} (h0 : C0 K cc) {a b : Nat} {off : Int} {tgt : Nat} (ha : a < 2 ^ 31) (hb : b < 2 ^ 31) (hdg : decode cc pc = .ok (.if_icmp .ge off, 3)) (ht : (pc : Int) + off = (tgt : Int)) (kt : b ≤ a → V K wp M tgt lv rest) (kf : a < b → V K wp M (pc + 3) lv rest) : V K wp M pc lv (.int (nI b) :: .int (nI a) :: rest) := v_icmp_ge h0 hdg ht (fun h9 => kt ((nI_leI hb ha).mp h9)) (fun h9 => kf (Nat.not_le.mp (fun q9 => h9 ((nI_leI hb ha).mpr q9))))
theorem n_icmp_gt {σ : Type} {K : Cf} {wp : σ → Heap → Prop} {M : σ} {cc : ByteArray} {pc : Nat} {lv : List (Nat × Value)} {rest : List Value} (h0 : C0 K cc) {a b : Nat} {off : Int} {tgt : Nat} (ha : a < 2 ^ 31) (hb : b < 2 ^ 31) (hdg : decode cc pc = .ok (.if_icmp .gt off, 3)) (ht : (pc : Int) + off = (tgt : Int)) (kt : b < a → V K wp M tgt lv rest) (kf : a ≤ b → V K wp M (pc + 3) lv rest) : V K wp M pc lv (.int (nI b) :: .int (nI a) :: rest) := v_icmp_gt h0 hdg ht (fun h9 => kt ((nI_ltI hb ha).mp h9)) (fun h9 => kf (Nat.not_lt.mp (fun q9 => h9 ((nI_ltI hb ha).mpr q9))))
theorem n_icmp_le {σ : Type} {K : Cf} {wp : σ → Heap → Prop} {M : σ} {cc : ByteArray} {pc : Nat} {lv : List (Nat × Value)} {rest : List Value} (h0 : C0 K cc) {a b : Nat} {off : Int} {tgt : Nat} (ha : a < 2 ^ 31) (hb : b < 2 ^ 31) (hdg : decode cc pc = .ok (.if_icmp .le off, 3)) (ht : (pc : Int) + off = (tgt : Int)) (kt : a ≤ b → V K wp M tgt lv rest) (kf : b < a → V K wp M (pc + 3) lv rest) : V K wp M pc lv (.int (nI b) :: .int (nI a) :: rest) := v_icmp_le h0 hdg ht (fun h9 => kt ((nI_leI ha hb).mp h9)) (fun h9 => kf (Nat.not_le.mp (fun q9 => h9 ((nI_leI ha hb).mpr q9))))
theorem b_if_eq {σ : Type} {K : Cf} {wp : σ → Heap → Prop} {M : σ} {cc : ByteArray} {pc : Nat} {lv : List (Nat × Value)} {rest : List Value} (h0 : C0 K cc) {b : Bool} {off : Int} {tgt : Nat} (hdg : decode cc pc = .ok (.ifCond .eq off, 3)) (ht : (pc : Int) + off = (tgt : Int)) (kt : b = false → V K wp M tgt lv rest) (kf : b = true → V K wp M (pc + 3) lv rest) : V K wp M pc lv (.int (bI b) :: rest) := v_if_eq h0 hdg ht (fun h9 => kt (bI_0.mp h9)) (fun h9 => kf (by cases b; exact absurd rfl h9; rfl))
theorem b_if_ne {σ : Type} {K : Cf} {wp : σ → Heap → Prop} {M : σ} {cc : ByteArray} {pc : Nat} {lv : List (Nat × Value)} {rest : List Value} (h0 : C0 K cc) {b : Bool} {off : Int} {tgt : Nat} (hdg : decode cc pc = .ok (.ifCond .ne off, 3)) (ht : (pc : Int) + off = (tgt : Int)) (kt : b = true → V K wp M tgt lv rest) (kf : b = false → V K wp M (pc + 3) lv rest) : V K wp M pc lv (.int (bI b) :: rest) := v_if_ne h0 hdg ht (fun h9 => kt (by cases b; exact absurd rfl h9; rfl)) (fun h9 => kf (bI_0.mp h9))
abbrev CB (l : Launch) (g : Gd) (y : MethodName) (cc : ByteArray) (mL : Nat) (rt : Option FieldType) (h : Nat) (av : List Value) (M : Me) (post : Option Value → Me → Prop) : Prop := Ct l y (.code y cc mL rt :: wG) h (wS (sB g)) (sA (sB g)) av M post
abbrev CR (l : Launch) (g : Gd) (y : MethodName) (cc : ByteArray) (mL : Nat) (rt : Option FieldType) (h : Nat) (av : List Value) (M : Me) (post : Option Value → Me → Prop) : Prop := Ct l y (.code y cc mL rt :: wG) h (wS (sR g)) (sA (sR g)) av M post
theorem hd_B_init : y_B_init.cls ≠ "java/lang/invoke/MethodHandle" ∧ y_B_init.cls ≠ "java/lang/invoke/VarHandle" ∧ (parseMethodDescriptor y_B_init.desc).map (fun d => d.parameters.length) = some 0 := by decide +kernel
theorem hd_Ce_init : y_Ce_init.cls ≠ "java/lang/invoke/MethodHandle" ∧ y_Ce_init.cls ≠ "java/lang/invoke/VarHandle" ∧ (parseMethodDescriptor y_Ce_init.desc).map (fun d => d.parameters.length) = some 0 := by decide +kernel
theorem hd_Te_init : y_Te_init.cls ≠ "java/lang/invoke/MethodHandle" ∧ y_Te_init.cls ≠ "java/lang/invoke/VarHandle" ∧ (parseMethodDescriptor y_Te_init.desc).map (fun d => d.parameters.length) = some 0 := by decide +kernel
theorem hd_Ev_init : y_Ev_init.cls ≠ "java/lang/invoke/MethodHandle" ∧ y_Ev_init.cls ≠ "java/lang/invoke/VarHandle" ∧ (parseMethodDescriptor y_Ev_init.desc).map (fun d => d.parameters.length) = some 0 := by decide +kernel
theorem hd_Fr_init : y_Fr_init.cls ≠ "java/lang/invoke/MethodHandle" ∧ y_Fr_init.cls ≠ "java/lang/invoke/VarHandle" ∧ (parseMethodDescriptor y_Fr_init.desc).map (fun d => d.parameters.length) = some 1 := by decide +kernel
theorem hd_B_type : y_B_type.cls ≠ "java/lang/invoke/MethodHandle" ∧ y_B_type.cls ≠ "java/lang/invoke/VarHandle" ∧ (parseMethodDescriptor y_B_type.desc).map (fun d => d.parameters.length) = some 2 := by decide +kernel
theorem hd_B_areTypeable : y_B_areTypeable.cls ≠ "java/lang/invoke/MethodHandle" ∧ y_B_areTypeable.cls ≠ "java/lang/invoke/VarHandle" ∧ (parseMethodDescriptor y_B_areTypeable.desc).map (fun d => d.parameters.length) = some 2 := by decide +kernel
theorem hd_B_characterAt : y_B_characterAt.cls ≠ "java/lang/invoke/MethodHandle" ∧ y_B_characterAt.cls ≠ "java/lang/invoke/VarHandle" ∧ (parseMethodDescriptor y_B_characterAt.desc).map (fun d => d.parameters.length) = some 2 := by decide +kernel
theorem hd_B_set : y_B_set.cls ≠ "java/lang/invoke/MethodHandle" ∧ y_B_set.cls ≠ "java/lang/invoke/VarHandle" ∧ (parseMethodDescriptor y_B_set.desc).map (fun d => d.parameters.length) = some 2 := by decide +kernel
theorem hd_B_isCell : y_B_isCell.cls ≠ "java/lang/invoke/MethodHandle" ∧ y_B_isCell.cls ≠ "java/lang/invoke/VarHandle" ∧ (parseMethodDescriptor y_B_isCell.desc).map (fun d => d.parameters.length) = some 1 := by decide +kernel
theorem hd_Ce_nameBit : y_Ce_nameBit.cls ≠ "java/lang/invoke/MethodHandle" ∧ y_Ce_nameBit.cls ≠ "java/lang/invoke/VarHandle" ∧ (parseMethodDescriptor y_Ce_nameBit.desc).map (fun d => d.parameters.length) = some 0 := by decide +kernel
theorem hd_Ce_isEmpty : y_Ce_isEmpty.cls ≠ "java/lang/invoke/MethodHandle" ∧ y_Ce_isEmpty.cls ≠ "java/lang/invoke/VarHandle" ∧ (parseMethodDescriptor y_Ce_isEmpty.desc).map (fun d => d.parameters.length) = some 0 := by decide +kernel
theorem hd_Te_read : y_Te_read.cls ≠ "java/lang/invoke/MethodHandle" ∧ y_Te_read.cls ≠ "java/lang/invoke/VarHandle" ∧ (parseMethodDescriptor y_Te_read.desc).map (fun d => d.parameters.length) = some 2 := by decide +kernel
theorem hd_Te_signAt : y_Te_signAt.cls ≠ "java/lang/invoke/MethodHandle" ∧ y_Te_signAt.cls ≠ "java/lang/invoke/VarHandle" ∧ (parseMethodDescriptor y_Te_signAt.desc).map (fun d => d.parameters.length) = some 1 := by decide +kernel
theorem hd_B_isLocal : y_B_isLocal.cls ≠ "java/lang/invoke/MethodHandle" ∧ y_B_isLocal.cls ≠ "java/lang/invoke/VarHandle" ∧ (parseMethodDescriptor y_B_isLocal.desc).map (fun d => d.parameters.length) = some 1 := by decide +kernel
theorem hd_Te_localAt : y_Te_localAt.cls ≠ "java/lang/invoke/MethodHandle" ∧ y_Te_localAt.cls ≠ "java/lang/invoke/VarHandle" ∧ (parseMethodDescriptor y_Te_localAt.desc).map (fun d => d.parameters.length) = some 1 := by decide +kernel
theorem hd_Te_readExpression : y_Te_readExpression.cls ≠ "java/lang/invoke/MethodHandle" ∧ y_Te_readExpression.cls ≠ "java/lang/invoke/VarHandle" ∧ (parseMethodDescriptor y_Te_readExpression.desc).map (fun d => d.parameters.length) = some 3 := by decide +kernel
theorem hd_Te_readSign : y_Te_readSign.cls ≠ "java/lang/invoke/MethodHandle" ∧ y_Te_readSign.cls ≠ "java/lang/invoke/VarHandle" ∧ (parseMethodDescriptor y_Te_readSign.desc).map (fun d => d.parameters.length) = some 3 := by decide +kernel
theorem hd_Te_readExpressions : y_Te_readExpressions.cls ≠ "java/lang/invoke/MethodHandle" ∧ y_Te_readExpressions.cls ≠ "java/lang/invoke/VarHandle" ∧ (parseMethodDescriptor y_Te_readExpressions.desc).map (fun d => d.parameters.length) = some 4 := by decide +kernel
theorem hd_Te_readBinding : y_Te_readBinding.cls ≠ "java/lang/invoke/MethodHandle" ∧ y_Te_readBinding.cls ≠ "java/lang/invoke/VarHandle" ∧ (parseMethodDescriptor y_Te_readBinding.desc).map (fun d => d.parameters.length) = some 3 := by decide +kernel
theorem hd_Te_readName : y_Te_readName.cls ≠ "java/lang/invoke/MethodHandle" ∧ y_Te_readName.cls ≠ "java/lang/invoke/VarHandle" ∧ (parseMethodDescriptor y_Te_readName.desc).map (fun d => d.parameters.length) = some 1 := by decide +kernel
theorem hd_B_isName : y_B_isName.cls ≠ "java/lang/invoke/MethodHandle" ∧ y_B_isName.cls ≠ "java/lang/invoke/VarHandle" ∧ (parseMethodDescriptor y_B_isName.desc).map (fun d => d.parameters.length) = some 1 := by decide +kernel
theorem hd_Te_readMatch : y_Te_readMatch.cls ≠ "java/lang/invoke/MethodHandle" ∧ y_Te_readMatch.cls ≠ "java/lang/invoke/VarHandle" ∧ (parseMethodDescriptor y_Te_readMatch.desc).map (fun d => d.parameters.length) = some 3 := by decide +kernel
theorem hd_B_isDigit : y_B_isDigit.cls ≠ "java/lang/invoke/MethodHandle" ∧ y_B_isDigit.cls ≠ "java/lang/invoke/VarHandle" ∧ (parseMethodDescriptor y_B_isDigit.desc).map (fun d => d.parameters.length) = some 1 := by decide +kernel
theorem hd_Te_readLeaf : y_Te_readLeaf.cls ≠ "java/lang/invoke/MethodHandle" ∧ y_Te_readLeaf.cls ≠ "java/lang/invoke/VarHandle" ∧ (parseMethodDescriptor y_Te_readLeaf.desc).map (fun d => d.parameters.length) = some 2 := by decide +kernel
theorem hd_B_hasBit : y_B_hasBit.cls ≠ "java/lang/invoke/MethodHandle" ∧ y_B_hasBit.cls ≠ "java/lang/invoke/VarHandle" ∧ (parseMethodDescriptor y_B_hasBit.desc).map (fun d => d.parameters.length) = some 2 := by decide +kernel
theorem hd_B_follow : y_B_follow.cls ≠ "java/lang/invoke/MethodHandle" ∧ y_B_follow.cls ≠ "java/lang/invoke/VarHandle" ∧ (parseMethodDescriptor y_B_follow.desc).map (fun d => d.parameters.length) = some 1 := by decide +kernel
theorem hd_B_findDefiners : y_B_findDefiners.cls ≠ "java/lang/invoke/MethodHandle" ∧ y_B_findDefiners.cls ≠ "java/lang/invoke/VarHandle" ∧ (parseMethodDescriptor y_B_findDefiners.desc).map (fun d => d.parameters.length) = some 0 := by decide +kernel
theorem hd_B_findWays : y_B_findWays.cls ≠ "java/lang/invoke/MethodHandle" ∧ y_B_findWays.cls ≠ "java/lang/invoke/VarHandle" ∧ (parseMethodDescriptor y_B_findWays.desc).map (fun d => d.parameters.length) = some 0 := by decide +kernel
theorem hd_Te_isFunction : y_Te_isFunction.cls ≠ "java/lang/invoke/MethodHandle" ∧ y_Te_isFunction.cls ≠ "java/lang/invoke/VarHandle" ∧ (parseMethodDescriptor y_Te_isFunction.desc).map (fun d => d.parameters.length) = some 0 := by decide +kernel
theorem hd_B_othersUsedBy : y_B_othersUsedBy.cls ≠ "java/lang/invoke/MethodHandle" ∧ y_B_othersUsedBy.cls ≠ "java/lang/invoke/VarHandle" ∧ (parseMethodDescriptor y_B_othersUsedBy.desc).map (fun d => d.parameters.length) = some 1 := by decide +kernel
theorem hd_B_cellsDefining : y_B_cellsDefining.cls ≠ "java/lang/invoke/MethodHandle" ∧ y_B_cellsDefining.cls ≠ "java/lang/invoke/VarHandle" ∧ (parseMethodDescriptor y_B_cellsDefining.desc).map (fun d => d.parameters.length) = some 1 := by decide +kernel
theorem hd_B_faultOf : y_B_faultOf.cls ≠ "java/lang/invoke/MethodHandle" ∧ y_B_faultOf.cls ≠ "java/lang/invoke/VarHandle" ∧ (parseMethodDescriptor y_B_faultOf.desc).map (fun d => d.parameters.length) = some 1 := by decide +kernel
theorem hd_B_usesMissingName : y_B_usesMissingName.cls ≠ "java/lang/invoke/MethodHandle" ∧ y_B_usesMissingName.cls ≠ "java/lang/invoke/VarHandle" ∧ (parseMethodDescriptor y_B_usesMissingName.desc).map (fun d => d.parameters.length) = some 1 := by decide +kernel
theorem hd_B_spreadStale : y_B_spreadStale.cls ≠ "java/lang/invoke/MethodHandle" ∧ y_B_spreadStale.cls ≠ "java/lang/invoke/VarHandle" ∧ (parseMethodDescriptor y_B_spreadStale.desc).map (fun d => d.parameters.length) = some 1 := by decide +kernel
theorem hd_B_makeUsersStale : y_B_makeUsersStale.cls ≠ "java/lang/invoke/MethodHandle" ∧ y_B_makeUsersStale.cls ≠ "java/lang/invoke/VarHandle" ∧ (parseMethodDescriptor y_B_makeUsersStale.desc).map (fun d => d.parameters.length) = some 1 := by decide +kernel
theorem hd_B_remove : y_B_remove.cls ≠ "java/lang/invoke/MethodHandle" ∧ y_B_remove.cls ≠ "java/lang/invoke/VarHandle" ∧ (parseMethodDescriptor y_B_remove.desc).map (fun d => d.parameters.length) = some 1 := by decide +kernel
theorem hd_Ce_clear : y_Ce_clear.cls ≠ "java/lang/invoke/MethodHandle" ∧ y_Ce_clear.cls ≠ "java/lang/invoke/VarHandle" ∧ (parseMethodDescriptor y_Ce_clear.desc).map (fun d => d.parameters.length) = some 0 := by decide +kernel
theorem hd_Te_clear : y_Te_clear.cls ≠ "java/lang/invoke/MethodHandle" ∧ y_Te_clear.cls ≠ "java/lang/invoke/VarHandle" ∧ (parseMethodDescriptor y_Te_clear.desc).map (fun d => d.parameters.length) = some 0 := by decide +kernel
theorem hd_B_work : y_B_work.cls ≠ "java/lang/invoke/MethodHandle" ∧ y_B_work.cls ≠ "java/lang/invoke/VarHandle" ∧ (parseMethodDescriptor y_B_work.desc).map (fun d => d.parameters.length) = some 1 := by decide +kernel
theorem hd_B_nextToWorkOn : y_B_nextToWorkOn.cls ≠ "java/lang/invoke/MethodHandle" ∧ y_B_nextToWorkOn.cls ≠ "java/lang/invoke/VarHandle" ∧ (parseMethodDescriptor y_B_nextToWorkOn.desc).map (fun d => d.parameters.length) = some 0 := by decide +kernel
theorem hd_B_staleCells : y_B_staleCells.cls ≠ "java/lang/invoke/MethodHandle" ∧ y_B_staleCells.cls ≠ "java/lang/invoke/VarHandle" ∧ (parseMethodDescriptor y_B_staleCells.desc).map (fun d => d.parameters.length) = some 0 := by decide +kernel
theorem hd_B_workOn : y_B_workOn.cls ≠ "java/lang/invoke/MethodHandle" ∧ y_B_workOn.cls ≠ "java/lang/invoke/VarHandle" ∧ (parseMethodDescriptor y_B_workOn.desc).map (fun d => d.parameters.length) = some 1 := by decide +kernel
theorem hd_B_usableCells : y_B_usableCells.cls ≠ "java/lang/invoke/MethodHandle" ∧ y_B_usableCells.cls ≠ "java/lang/invoke/VarHandle" ∧ (parseMethodDescriptor y_B_usableCells.desc).map (fun d => d.parameters.length) = some 0 := by decide +kernel
theorem hd_Ce_isUsable : y_Ce_isUsable.cls ≠ "java/lang/invoke/MethodHandle" ∧ y_Ce_isUsable.cls ≠ "java/lang/invoke/VarHandle" ∧ (parseMethodDescriptor y_Ce_isUsable.desc).map (fun d => d.parameters.length) = some 0 := by decide +kernel
theorem hd_Ce_shown : y_Ce_shown.cls ≠ "java/lang/invoke/MethodHandle" ∧ y_Ce_shown.cls ≠ "java/lang/invoke/VarHandle" ∧ (parseMethodDescriptor y_Ce_shown.desc).map (fun d => d.parameters.length) = some 0 := by decide +kernel
theorem hd_Ty_ofText : y_Ty_ofText.cls ≠ "java/lang/invoke/MethodHandle" ∧ y_Ty_ofText.cls ≠ "java/lang/invoke/VarHandle" ∧ (parseMethodDescriptor y_Ty_ofText.desc).map (fun d => d.parameters.length) = some 2 := by decide +kernel
theorem hd_Ty_ofExpression : y_Ty_ofExpression.cls ≠ "java/lang/invoke/MethodHandle" ∧ y_Ty_ofExpression.cls ≠ "java/lang/invoke/VarHandle" ∧ (parseMethodDescriptor y_Ty_ofExpression.desc).map (fun d => d.parameters.length) = some 4 := by decide +kernel
theorem hd_Ty_areBoth : y_Ty_areBoth.cls ≠ "java/lang/invoke/MethodHandle" ∧ y_Ty_areBoth.cls ≠ "java/lang/invoke/VarHandle" ∧ (parseMethodDescriptor y_Ty_areBoth.desc).map (fun d => d.parameters.length) = some 5 := by decide +kernel
theorem hd_Te_endOf : y_Te_endOf.cls ≠ "java/lang/invoke/MethodHandle" ∧ y_Te_endOf.cls ≠ "java/lang/invoke/VarHandle" ∧ (parseMethodDescriptor y_Te_endOf.desc).map (fun d => d.parameters.length) = some 1 := by decide +kernel
theorem hd_Ty_ofChoice : y_Ty_ofChoice.cls ≠ "java/lang/invoke/MethodHandle" ∧ y_Ty_ofChoice.cls ≠ "java/lang/invoke/VarHandle" ∧ (parseMethodDescriptor y_Ty_ofChoice.desc).map (fun d => d.parameters.length) = some 4 := by decide +kernel
theorem hd_Ty_ofBinding : y_Ty_ofBinding.cls ≠ "java/lang/invoke/MethodHandle" ∧ y_Ty_ofBinding.cls ≠ "java/lang/invoke/VarHandle" ∧ (parseMethodDescriptor y_Ty_ofBinding.desc).map (fun d => d.parameters.length) = some 4 := by decide +kernel
theorem hd_Ty_ofCall : y_Ty_ofCall.cls ≠ "java/lang/invoke/MethodHandle" ∧ y_Ty_ofCall.cls ≠ "java/lang/invoke/VarHandle" ∧ (parseMethodDescriptor y_Ty_ofCall.desc).map (fun d => d.parameters.length) = some 4 := by decide +kernel
theorem hd_B_definerOf : y_B_definerOf.cls ≠ "java/lang/invoke/MethodHandle" ∧ y_B_definerOf.cls ≠ "java/lang/invoke/VarHandle" ∧ (parseMethodDescriptor y_B_definerOf.desc).map (fun d => d.parameters.length) = some 2 := by decide +kernel
theorem hd_Ty_ofMatch : y_Ty_ofMatch.cls ≠ "java/lang/invoke/MethodHandle" ∧ y_Ty_ofMatch.cls ≠ "java/lang/invoke/VarHandle" ∧ (parseMethodDescriptor y_Ty_ofMatch.desc).map (fun d => d.parameters.length) = some 4 := by decide +kernel
theorem hd_Ty_ofLeaf : y_Ty_ofLeaf.cls ≠ "java/lang/invoke/MethodHandle" ∧ y_Ty_ofLeaf.cls ≠ "java/lang/invoke/VarHandle" ∧ (parseMethodDescriptor y_Ty_ofLeaf.desc).map (fun d => d.parameters.length) = some 2 := by decide +kernel
theorem hd_Ev_run : y_Ev_run.cls ≠ "java/lang/invoke/MethodHandle" ∧ y_Ev_run.cls ≠ "java/lang/invoke/VarHandle" ∧ (parseMethodDescriptor y_Ev_run.desc).map (fun d => d.parameters.length) = some 3 := by decide +kernel
theorem hd_Ev_ofExpression : y_Ev_ofExpression.cls ≠ "java/lang/invoke/MethodHandle" ∧ y_Ev_ofExpression.cls ≠ "java/lang/invoke/VarHandle" ∧ (parseMethodDescriptor y_Ev_ofExpression.desc).map (fun d => d.parameters.length) = some 3 := by decide +kernel
theorem hd_Ev_fail : y_Ev_fail.cls ≠ "java/lang/invoke/MethodHandle" ∧ y_Ev_fail.cls ≠ "java/lang/invoke/VarHandle" ∧ (parseMethodDescriptor y_Ev_fail.desc).map (fun d => d.parameters.length) = some 1 := by decide +kernel
theorem hd_Ev_ofBoth : y_Ev_ofBoth.cls ≠ "java/lang/invoke/MethodHandle" ∧ y_Ev_ofBoth.cls ≠ "java/lang/invoke/VarHandle" ∧ (parseMethodDescriptor y_Ev_ofBoth.desc).map (fun d => d.parameters.length) = some 3 := by decide +kernel
theorem hd_Ev_hasFailed : y_Ev_hasFailed.cls ≠ "java/lang/invoke/MethodHandle" ∧ y_Ev_hasFailed.cls ≠ "java/lang/invoke/VarHandle" ∧ (parseMethodDescriptor y_Ev_hasFailed.desc).map (fun d => d.parameters.length) = some 0 := by decide +kernel
theorem hd_Ev_ofChoice : y_Ev_ofChoice.cls ≠ "java/lang/invoke/MethodHandle" ∧ y_Ev_ofChoice.cls ≠ "java/lang/invoke/VarHandle" ∧ (parseMethodDescriptor y_Ev_ofChoice.desc).map (fun d => d.parameters.length) = some 3 := by decide +kernel
theorem hd_Ev_ofBinding : y_Ev_ofBinding.cls ≠ "java/lang/invoke/MethodHandle" ∧ y_Ev_ofBinding.cls ≠ "java/lang/invoke/VarHandle" ∧ (parseMethodDescriptor y_Ev_ofBinding.desc).map (fun d => d.parameters.length) = some 3 := by decide +kernel
theorem hd_Ev_ofCall : y_Ev_ofCall.cls ≠ "java/lang/invoke/MethodHandle" ∧ y_Ev_ofCall.cls ≠ "java/lang/invoke/VarHandle" ∧ (parseMethodDescriptor y_Ev_ofCall.desc).map (fun d => d.parameters.length) = some 3 := by decide +kernel
theorem hd_Ev_ofMatch : y_Ev_ofMatch.cls ≠ "java/lang/invoke/MethodHandle" ∧ y_Ev_ofMatch.cls ≠ "java/lang/invoke/VarHandle" ∧ (parseMethodDescriptor y_Ev_ofMatch.desc).map (fun d => d.parameters.length) = some 3 := by decide +kernel
theorem hd_Ev_ofPair : y_Ev_ofPair.cls ≠ "java/lang/invoke/MethodHandle" ∧ y_Ev_ofPair.cls ≠ "java/lang/invoke/VarHandle" ∧ (parseMethodDescriptor y_Ev_ofPair.desc).map (fun d => d.parameters.length) = some 3 := by decide +kernel
theorem hd_Ev_combine : y_Ev_combine.cls ≠ "java/lang/invoke/MethodHandle" ∧ y_Ev_combine.cls ≠ "java/lang/invoke/VarHandle" ∧ (parseMethodDescriptor y_Ev_combine.desc).map (fun d => d.parameters.length) = some 3 := by decide +kernel
theorem hd_Ev_ofLeaf : y_Ev_ofLeaf.cls ≠ "java/lang/invoke/MethodHandle" ∧ y_Ev_ofLeaf.cls ≠ "java/lang/invoke/VarHandle" ∧ (parseMethodDescriptor y_Ev_ofLeaf.desc).map (fun d => d.parameters.length) = some 2 := by decide +kernel
theorem hd_B_cancel : y_B_cancel.cls ≠ "java/lang/invoke/MethodHandle" ∧ y_B_cancel.cls ≠ "java/lang/invoke/VarHandle" ∧ (parseMethodDescriptor y_B_cancel.desc).map (fun d => d.parameters.length) = some 1 := by decide +kernel
theorem hd_B_status : y_B_status.cls ≠ "java/lang/invoke/MethodHandle" ∧ y_B_status.cls ≠ "java/lang/invoke/VarHandle" ∧ (parseMethodDescriptor y_B_status.desc).map (fun d => d.parameters.length) = some 1 := by decide +kernel
theorem hd_B_value : y_B_value.cls ≠ "java/lang/invoke/MethodHandle" ∧ y_B_value.cls ≠ "java/lang/invoke/VarHandle" ∧ (parseMethodDescriptor y_B_value.desc).map (fun d => d.parameters.length) = some 1 := by decide +kernel
theorem hd_B_kind : y_B_kind.cls ≠ "java/lang/invoke/MethodHandle" ∧ y_B_kind.cls ≠ "java/lang/invoke/VarHandle" ∧ (parseMethodDescriptor y_B_kind.desc).map (fun d => d.parameters.length) = some 1 := by decide +kernel
theorem hd_B_uses : y_B_uses.cls ≠ "java/lang/invoke/MethodHandle" ∧ y_B_uses.cls ≠ "java/lang/invoke/VarHandle" ∧ (parseMethodDescriptor y_B_uses.desc).map (fun d => d.parameters.length) = some 1 := by decide +kernel
theorem hd_B_runs : y_B_runs.cls ≠ "java/lang/invoke/MethodHandle" ∧ y_B_runs.cls ≠ "java/lang/invoke/VarHandle" ∧ (parseMethodDescriptor y_B_runs.desc).map (fun d => d.parameters.length) = some 1 := by decide +kernel
theorem hd_B_steps : y_B_steps.cls ≠ "java/lang/invoke/MethodHandle" ∧ y_B_steps.cls ≠ "java/lang/invoke/VarHandle" ∧ (parseMethodDescriptor y_B_steps.desc).map (fun d => d.parameters.length) = some 0 := by decide +kernel
theorem hd_Mo_init : y_Mo_init.cls ≠ "java/lang/invoke/MethodHandle" ∧ y_Mo_init.cls ≠ "java/lang/invoke/VarHandle" ∧ (parseMethodDescriptor y_Mo_init.desc).map (fun d => d.parameters.length) = some 0 := by decide +kernel
theorem hd_Mo_type : y_Mo_type.cls ≠ "java/lang/invoke/MethodHandle" ∧ y_Mo_type.cls ≠ "java/lang/invoke/VarHandle" ∧ (parseMethodDescriptor y_Mo_type.desc).map (fun d => d.parameters.length) = some 2 := by decide +kernel
theorem hd_Mo_set : y_Mo_set.cls ≠ "java/lang/invoke/MethodHandle" ∧ y_Mo_set.cls ≠ "java/lang/invoke/VarHandle" ∧ (parseMethodDescriptor y_Mo_set.desc).map (fun d => d.parameters.length) = some 2 := by decide +kernel
theorem hd_Mo_isCell : y_Mo_isCell.cls ≠ "java/lang/invoke/MethodHandle" ∧ y_Mo_isCell.cls ≠ "java/lang/invoke/VarHandle" ∧ (parseMethodDescriptor y_Mo_isCell.desc).map (fun d => d.parameters.length) = some 1 := by decide +kernel
theorem hd_Mo_reads : y_Mo_reads.cls ≠ "java/lang/invoke/MethodHandle" ∧ y_Mo_reads.cls ≠ "java/lang/invoke/VarHandle" ∧ (parseMethodDescriptor y_Mo_reads.desc).map (fun d => d.parameters.length) = some 1 := by decide +kernel
theorem hd_Mo_charAt : y_Mo_charAt.cls ≠ "java/lang/invoke/MethodHandle" ∧ y_Mo_charAt.cls ≠ "java/lang/invoke/VarHandle" ∧ (parseMethodDescriptor y_Mo_charAt.desc).map (fun d => d.parameters.length) = some 2 := by decide +kernel
theorem hd_Mo_isLocal : y_Mo_isLocal.cls ≠ "java/lang/invoke/MethodHandle" ∧ y_Mo_isLocal.cls ≠ "java/lang/invoke/VarHandle" ∧ (parseMethodDescriptor y_Mo_isLocal.desc).map (fun d => d.parameters.length) = some 1 := by decide +kernel
theorem hd_Mo_come : y_Mo_come.cls ≠ "java/lang/invoke/MethodHandle" ∧ y_Mo_come.cls ≠ "java/lang/invoke/VarHandle" ∧ (parseMethodDescriptor y_Mo_come.desc).map (fun d => d.parameters.length) = some 1 := by decide +kernel
theorem hd_Mo_isDigit : y_Mo_isDigit.cls ≠ "java/lang/invoke/MethodHandle" ∧ y_Mo_isDigit.cls ≠ "java/lang/invoke/VarHandle" ∧ (parseMethodDescriptor y_Mo_isDigit.desc).map (fun d => d.parameters.length) = some 1 := by decide +kernel
theorem hd_Mo_readOne : y_Mo_readOne.cls ≠ "java/lang/invoke/MethodHandle" ∧ y_Mo_readOne.cls ≠ "java/lang/invoke/VarHandle" ∧ (parseMethodDescriptor y_Mo_readOne.desc).map (fun d => d.parameters.length) = some 2 := by decide +kernel
theorem hd_Mo_isName : y_Mo_isName.cls ≠ "java/lang/invoke/MethodHandle" ∧ y_Mo_isName.cls ≠ "java/lang/invoke/VarHandle" ∧ (parseMethodDescriptor y_Mo_isName.desc).map (fun d => d.parameters.length) = some 1 := by decide +kernel
theorem hd_Mo_isBinary : y_Mo_isBinary.cls ≠ "java/lang/invoke/MethodHandle" ∧ y_Mo_isBinary.cls ≠ "java/lang/invoke/VarHandle" ∧ (parseMethodDescriptor y_Mo_isBinary.desc).map (fun d => d.parameters.length) = some 1 := by decide +kernel
theorem hd_Mo_findEnds : y_Mo_findEnds.cls ≠ "java/lang/invoke/MethodHandle" ∧ y_Mo_findEnds.cls ≠ "java/lang/invoke/VarHandle" ∧ (parseMethodDescriptor y_Mo_findEnds.desc).map (fun d => d.parameters.length) = some 1 := by decide +kernel
theorem hd_Mo_isFunction : y_Mo_isFunction.cls ≠ "java/lang/invoke/MethodHandle" ∧ y_Mo_isFunction.cls ≠ "java/lang/invoke/VarHandle" ∧ (parseMethodDescriptor y_Mo_isFunction.desc).map (fun d => d.parameters.length) = some 1 := by decide +kernel
theorem hd_Mo_operands : y_Mo_operands.cls ≠ "java/lang/invoke/MethodHandle" ∧ y_Mo_operands.cls ≠ "java/lang/invoke/VarHandle" ∧ (parseMethodDescriptor y_Mo_operands.desc).map (fun d => d.parameters.length) = some 1 := by decide +kernel
theorem hd_Mo_becomes : y_Mo_becomes.cls ≠ "java/lang/invoke/MethodHandle" ∧ y_Mo_becomes.cls ≠ "java/lang/invoke/VarHandle" ∧ (parseMethodDescriptor y_Mo_becomes.desc).map (fun d => d.parameters.length) = some 2 := by decide +kernel
theorem hd_Mo_isThere : y_Mo_isThere.cls ≠ "java/lang/invoke/MethodHandle" ∧ y_Mo_isThere.cls ≠ "java/lang/invoke/VarHandle" ∧ (parseMethodDescriptor y_Mo_isThere.desc).map (fun d => d.parameters.length) = some 1 := by decide +kernel
theorem hd_Mo_needs : y_Mo_needs.cls ≠ "java/lang/invoke/MethodHandle" ∧ y_Mo_needs.cls ≠ "java/lang/invoke/VarHandle" ∧ (parseMethodDescriptor y_Mo_needs.desc).map (fun d => d.parameters.length) = some 2 := by decide +kernel
theorem hd_Mo_remove : y_Mo_remove.cls ≠ "java/lang/invoke/MethodHandle" ∧ y_Mo_remove.cls ≠ "java/lang/invoke/VarHandle" ∧ (parseMethodDescriptor y_Mo_remove.desc).map (fun d => d.parameters.length) = some 1 := by decide +kernel
theorem hd_Mo_work : y_Mo_work.cls ≠ "java/lang/invoke/MethodHandle" ∧ y_Mo_work.cls ≠ "java/lang/invoke/VarHandle" ∧ (parseMethodDescriptor y_Mo_work.desc).map (fun d => d.parameters.length) = some 1 := by decide +kernel
theorem hd_Mo_workOnce : y_Mo_workOnce.cls ≠ "java/lang/invoke/MethodHandle" ∧ y_Mo_workOnce.cls ≠ "java/lang/invoke/VarHandle" ∧ (parseMethodDescriptor y_Mo_workOnce.desc).map (fun d => d.parameters.length) = some 0 := by decide +kernel
theorem hd_Mo_isReady : y_Mo_isReady.cls ≠ "java/lang/invoke/MethodHandle" ∧ y_Mo_isReady.cls ≠ "java/lang/invoke/VarHandle" ∧ (parseMethodDescriptor y_Mo_isReady.desc).map (fun d => d.parameters.length) = some 1 := by decide +kernel
theorem hd_Mo_fault : y_Mo_fault.cls ≠ "java/lang/invoke/MethodHandle" ∧ y_Mo_fault.cls ≠ "java/lang/invoke/VarHandle" ∧ (parseMethodDescriptor y_Mo_fault.desc).map (fun d => d.parameters.length) = some 1 := by decide +kernel
theorem hd_Mo_definer : y_Mo_definer.cls ≠ "java/lang/invoke/MethodHandle" ∧ y_Mo_definer.cls ≠ "java/lang/invoke/VarHandle" ∧ (parseMethodDescriptor y_Mo_definer.desc).map (fun d => d.parameters.length) = some 1 := by decide +kernel
theorem hd_Mo_cycles : y_Mo_cycles.cls ≠ "java/lang/invoke/MethodHandle" ∧ y_Mo_cycles.cls ≠ "java/lang/invoke/VarHandle" ∧ (parseMethodDescriptor y_Mo_cycles.desc).map (fun d => d.parameters.length) = some 1 := by decide +kernel
theorem hd_Mo_workOut : y_Mo_workOut.cls ≠ "java/lang/invoke/MethodHandle" ∧ y_Mo_workOut.cls ≠ "java/lang/invoke/VarHandle" ∧ (parseMethodDescriptor y_Mo_workOut.desc).map (fun d => d.parameters.length) = some 1 := by decide +kernel
theorem hd_Mo_blocks : y_Mo_blocks.cls ≠ "java/lang/invoke/MethodHandle" ∧ y_Mo_blocks.cls ≠ "java/lang/invoke/VarHandle" ∧ (parseMethodDescriptor y_Mo_blocks.desc).map (fun d => d.parameters.length) = some 1 := by decide +kernel
theorem hd_Mo_typeOf : y_Mo_typeOf.cls ≠ "java/lang/invoke/MethodHandle" ∧ y_Mo_typeOf.cls ≠ "java/lang/invoke/VarHandle" ∧ (parseMethodDescriptor y_Mo_typeOf.desc).map (fun d => d.parameters.length) = some 1 := by decide +kernel
theorem hd_Mo_ownName : y_Mo_ownName.cls ≠ "java/lang/invoke/MethodHandle" ∧ y_Mo_ownName.cls ≠ "java/lang/invoke/VarHandle" ∧ (parseMethodDescriptor y_Mo_ownName.desc).map (fun d => d.parameters.length) = some 2 := by decide +kernel
theorem hd_Mo_typeOfName : y_Mo_typeOfName.cls ≠ "java/lang/invoke/MethodHandle" ∧ y_Mo_typeOfName.cls ≠ "java/lang/invoke/VarHandle" ∧ (parseMethodDescriptor y_Mo_typeOfName.desc).map (fun d => d.parameters.length) = some 1 := by decide +kernel
theorem hd_Mo_typeOver : y_Mo_typeOver.cls ≠ "java/lang/invoke/MethodHandle" ∧ y_Mo_typeOver.cls ≠ "java/lang/invoke/VarHandle" ∧ (parseMethodDescriptor y_Mo_typeOver.desc).map (fun d => d.parameters.length) = some 2 := by decide +kernel
theorem hd_Mo_popType : y_Mo_popType.cls ≠ "java/lang/invoke/MethodHandle" ∧ y_Mo_popType.cls ≠ "java/lang/invoke/VarHandle" ∧ (parseMethodDescriptor y_Mo_popType.desc).map (fun d => d.parameters.length) = some 0 := by decide +kernel
theorem hd_Mo_isFunctionName : y_Mo_isFunctionName.cls ≠ "java/lang/invoke/MethodHandle" ∧ y_Mo_isFunctionName.cls ≠ "java/lang/invoke/VarHandle" ∧ (parseMethodDescriptor y_Mo_isFunctionName.desc).map (fun d => d.parameters.length) = some 2 := by decide +kernel
theorem hd_Mo_pushType : y_Mo_pushType.cls ≠ "java/lang/invoke/MethodHandle" ∧ y_Mo_pushType.cls ≠ "java/lang/invoke/VarHandle" ∧ (parseMethodDescriptor y_Mo_pushType.desc).map (fun d => d.parameters.length) = some 1 := by decide +kernel
theorem hd_Mo_evaluate : y_Mo_evaluate.cls ≠ "java/lang/invoke/MethodHandle" ∧ y_Mo_evaluate.cls ≠ "java/lang/invoke/VarHandle" ∧ (parseMethodDescriptor y_Mo_evaluate.desc).map (fun d => d.parameters.length) = some 2 := by decide +kernel
theorem hd_Mo_enter : y_Mo_enter.cls ≠ "java/lang/invoke/MethodHandle" ∧ y_Mo_enter.cls ≠ "java/lang/invoke/VarHandle" ∧ (parseMethodDescriptor y_Mo_enter.desc).map (fun d => d.parameters.length) = some 2 := by decide +kernel
theorem hd_Mo_goOn : y_Mo_goOn.cls ≠ "java/lang/invoke/MethodHandle" ∧ y_Mo_goOn.cls ≠ "java/lang/invoke/VarHandle" ∧ (parseMethodDescriptor y_Mo_goOn.desc).map (fun d => d.parameters.length) = some 0 := by decide +kernel
theorem hd_Mo_leave : y_Mo_leave.cls ≠ "java/lang/invoke/MethodHandle" ∧ y_Mo_leave.cls ≠ "java/lang/invoke/VarHandle" ∧ (parseMethodDescriptor y_Mo_leave.desc).map (fun d => d.parameters.length) = some 1 := by decide +kernel
theorem hd_Mo_branch : y_Mo_branch.cls ≠ "java/lang/invoke/MethodHandle" ∧ y_Mo_branch.cls ≠ "java/lang/invoke/VarHandle" ∧ (parseMethodDescriptor y_Mo_branch.desc).map (fun d => d.parameters.length) = some 4 := by decide +kernel
theorem hd_Mo_let : y_Mo_let.cls ≠ "java/lang/invoke/MethodHandle" ∧ y_Mo_let.cls ≠ "java/lang/invoke/VarHandle" ∧ (parseMethodDescriptor y_Mo_let.desc).map (fun d => d.parameters.length) = some 4 := by decide +kernel
theorem hd_Mo_call : y_Mo_call.cls ≠ "java/lang/invoke/MethodHandle" ∧ y_Mo_call.cls ≠ "java/lang/invoke/VarHandle" ∧ (parseMethodDescriptor y_Mo_call.desc).map (fun d => d.parameters.length) = some 3 := by decide +kernel
theorem hd_Mo_match : y_Mo_match.cls ≠ "java/lang/invoke/MethodHandle" ∧ y_Mo_match.cls ≠ "java/lang/invoke/VarHandle" ∧ (parseMethodDescriptor y_Mo_match.desc).map (fun d => d.parameters.length) = some 4 := by decide +kernel
theorem hd_Mo_joined : y_Mo_joined.cls ≠ "java/lang/invoke/MethodHandle" ∧ y_Mo_joined.cls ≠ "java/lang/invoke/VarHandle" ∧ (parseMethodDescriptor y_Mo_joined.desc).map (fun d => d.parameters.length) = some 3 := by decide +kernel
theorem hd_Mo_cancel : y_Mo_cancel.cls ≠ "java/lang/invoke/MethodHandle" ∧ y_Mo_cancel.cls ≠ "java/lang/invoke/VarHandle" ∧ (parseMethodDescriptor y_Mo_cancel.desc).map (fun d => d.parameters.length) = some 1 := by decide +kernel
theorem hd_Mo_status : y_Mo_status.cls ≠ "java/lang/invoke/MethodHandle" ∧ y_Mo_status.cls ≠ "java/lang/invoke/VarHandle" ∧ (parseMethodDescriptor y_Mo_status.desc).map (fun d => d.parameters.length) = some 1 := by decide +kernel
theorem hd_Mo_value : y_Mo_value.cls ≠ "java/lang/invoke/MethodHandle" ∧ y_Mo_value.cls ≠ "java/lang/invoke/VarHandle" ∧ (parseMethodDescriptor y_Mo_value.desc).map (fun d => d.parameters.length) = some 1 := by decide +kernel
theorem hd_Mo_kind : y_Mo_kind.cls ≠ "java/lang/invoke/MethodHandle" ∧ y_Mo_kind.cls ≠ "java/lang/invoke/VarHandle" ∧ (parseMethodDescriptor y_Mo_kind.desc).map (fun d => d.parameters.length) = some 1 := by decide +kernel
theorem hd_Mo_uses : y_Mo_uses.cls ≠ "java/lang/invoke/MethodHandle" ∧ y_Mo_uses.cls ≠ "java/lang/invoke/VarHandle" ∧ (parseMethodDescriptor y_Mo_uses.desc).map (fun d => d.parameters.length) = some 1 := by decide +kernel
theorem hd_Mo_runs : y_Mo_runs.cls ≠ "java/lang/invoke/MethodHandle" ∧ y_Mo_runs.cls ≠ "java/lang/invoke/VarHandle" ∧ (parseMethodDescriptor y_Mo_runs.desc).map (fun d => d.parameters.length) = some 1 := by decide +kernel
theorem hd_Mo_steps : y_Mo_steps.cls ≠ "java/lang/invoke/MethodHandle" ∧ y_Mo_steps.cls ≠ "java/lang/invoke/VarHandle" ∧ (parseMethodDescriptor y_Mo_steps.desc).map (fun d => d.parameters.length) = some 0 := by decide +kernel
end
section
/-! THE BOOK'S SMALL METHODS -/
theorem ret_t {b : Bool} (h : b = true) : some (Value.int (nI 1)) = some (Value.int (bI b)) := by rw [h]; rfl
theorem ret_f {b : Bool} (h : b = false) : some (Value.int (nI 0)) = some (Value.int (bI b)) := by rw [h]; rfl
theorem bI_z (b : Bool) : narrow .boolean (.int (bI b)) = .int (bI b) := by cases b <;> rfl
def inB (x : Int32) : Bool := decide (0 ≤ x ∧ x < 10)
def kdB (j : Nat) (x : Int32) : Bool := decide (kd x = j)
def sgA (s : Nat → Int32) (n k : Nat) : Int32 := if k < n then s k else 0
def chS (s : Nat → Int32) : Prop := ∀ j, j < 24 → narrow .char (.int (s j)) = .int (s j)
def nbI (x : Int32) : Int32 := if x = -1 then 0 else 1 <<< (x &&& 31)
def shI (M : Me) (c : Nat) : Int32 := if M (7 + c) 1 = -1 then 0 else if M (7 + c) 2 = 0 then (if M (7 + c) 3 = 0 then M (7 + c) 4 else 12) else M (7 + c) 2
def fuB (M : Me) (c : Nat) : Bool := decide (¬ M (17 + c) 4 = 0 ∧ M (17 + c) 3 = 2)
theorem i_nlt {a b : Int32} (h : ¬ a < b) : b ≤ a := Int32.not_lt.mp h
theorem i_nle {a b : Int32} (h : ¬ a ≤ b) : b < a := Int32.not_le.mp h
theorem nI_i {n : Nat} (h : n < 2 ^ 31) : ¬ nI n < 0 := nI_pos h
set_option maxHeartbeats 4000000 in
theorem m_B_isCell (l : Launch) (g : Gd) (hI : sI (sB g)) (M : Me) (x : Int32) : CB l g y_B_isCell c_B_isCell 1 (some .boolean) 1 [.int x] M (fun r M' => r = some (.int (bI (inB x))) ∧ M = M') := by
  refine Ct.of hI (sB_N0 g) rfl (Nat.le_of_ble_eq_true rfl) (fun K h0 hC hR hkl hn => ?_)
  have hC : Cx (sB g) K gC_B _ := hC
  show V K (wp (sB g)) M 0 [(0, .int x)] []
  refine v_iload_n h0 d_B_isCell_0 0 rfl ?_
  refine v_if_lt h0 d_B_isCell_1 rfl (fun h1 => ?_) (fun h1 => ?_)
  · skip
    refine v_iconst h0 d_B_isCell_14 (v := nI 0) (by decide) ?_
    exact v_zret h0 hC hR (rfl) d_B_isCell_15 (⟨ret_f (decide_eq_false (fun q => absurd h1 (Int32.not_lt.mpr q.1))), rfl⟩)
  · skip
    refine v_iload_n h0 d_B_isCell_4 0 rfl ?_
    refine v_bipush h0 d_B_isCell_5 (v := nI 10) (by decide) ?_
    refine v_icmp_ge h0 d_B_isCell_7 rfl (fun h7 => ?_) (fun h7 => ?_)
    · skip
      refine v_iconst h0 d_B_isCell_14 (v := nI 0) (by decide) ?_
      exact v_zret h0 hC hR (rfl) d_B_isCell_15 (⟨ret_f (decide_eq_false (fun q => absurd h7 (Int32.not_le.mpr q.2))), rfl⟩)
    · skip
      refine v_iconst h0 d_B_isCell_10 (v := nI 1) (by decide) ?_
      refine v_goto h0 d_B_isCell_11 rfl ?_
      exact v_zret h0 hC hR (rfl) d_B_isCell_15 (⟨ret_t (decide_eq_true ⟨i_nlt h1, i_nle h7⟩), rfl⟩)
set_option maxHeartbeats 4000000 in
theorem m_B_isDigit (l : Launch) (g : Gd) (hI : sI (sB g)) (M : Me) (x : Int32) : CB l g y_B_isDigit c_B_isDigit 1 (some .boolean) 1 [.int x] M (fun r M' => r = some (.int (bI (kdB 7 x))) ∧ M = M') := by
  refine Ct.of hI (sB_N0 g) rfl (Nat.le_of_ble_eq_true rfl) (fun K h0 hC hR hkl hn => ?_)
  have hC : Cx (sB g) K gC_B _ := hC
  show V K (wp (sB g)) M 0 [(0, .int x)] []
  refine v_iload_n h0 d_B_isDigit_0 0 rfl ?_
  refine v_bipush h0 d_B_isDigit_1 (v := nI 48) (by decide) ?_
  refine v_icmp_lt h0 d_B_isDigit_3 rfl (fun h3 => ?_) (fun h3 => ?_)
  · skip
    refine v_iconst h0 d_B_isDigit_16 (v := nI 0) (by decide) ?_
    exact v_zret h0 hC hR (rfl) d_B_isDigit_17 (⟨ret_f (decide_eq_false (fun q => absurd h3 (Int32.not_lt.mpr ((kd_7 x).mp q).1))), rfl⟩)
  · skip
    refine v_iload_n h0 d_B_isDigit_6 0 rfl ?_
    refine v_bipush h0 d_B_isDigit_7 (v := nI 57) (by decide) ?_
    refine v_icmp_gt h0 d_B_isDigit_9 rfl (fun h9 => ?_) (fun h9 => ?_)
    · skip
      refine v_iconst h0 d_B_isDigit_16 (v := nI 0) (by decide) ?_
      exact v_zret h0 hC hR (rfl) d_B_isDigit_17 (⟨ret_f (decide_eq_false (fun q => absurd h9 (Int32.not_lt.mpr ((kd_7 x).mp q).2))), rfl⟩)
    · skip
      refine v_iconst h0 d_B_isDigit_12 (v := nI 1) (by decide) ?_
      refine v_goto h0 d_B_isDigit_13 rfl ?_
      exact v_zret h0 hC hR (rfl) d_B_isDigit_17 (⟨ret_t (decide_eq_true ((kd_7 x).mpr ⟨i_nlt h3, i_nlt h9⟩)), rfl⟩)
set_option maxHeartbeats 4000000 in
theorem m_B_isName (l : Launch) (g : Gd) (hI : sI (sB g)) (M : Me) (x : Int32) : CB l g y_B_isName c_B_isName 1 (some .boolean) 1 [.int x] M (fun r M' => r = some (.int (bI (kdB 8 x))) ∧ M = M') := by
  refine Ct.of hI (sB_N0 g) rfl (Nat.le_of_ble_eq_true rfl) (fun K h0 hC hR hkl hn => ?_)
  have hC : Cx (sB g) K gC_B _ := hC
  show V K (wp (sB g)) M 0 [(0, .int x)] []
  refine v_iload_n h0 d_B_isName_0 0 rfl ?_
  refine v_bipush h0 d_B_isName_1 (v := nI 97) (by decide) ?_
  refine v_icmp_lt h0 d_B_isName_3 rfl (fun h3 => ?_) (fun h3 => ?_)
  · skip
    refine v_iconst h0 d_B_isName_16 (v := nI 0) (by decide) ?_
    exact v_zret h0 hC hR (rfl) d_B_isName_17 (⟨ret_f (decide_eq_false (fun q => absurd h3 (Int32.not_lt.mpr ((kd_8 x).mp q).1))), rfl⟩)
  · skip
    refine v_iload_n h0 d_B_isName_6 0 rfl ?_
    refine v_bipush h0 d_B_isName_7 (v := nI 106) (by decide) ?_
    refine v_icmp_gt h0 d_B_isName_9 rfl (fun h9 => ?_) (fun h9 => ?_)
    · skip
      refine v_iconst h0 d_B_isName_16 (v := nI 0) (by decide) ?_
      exact v_zret h0 hC hR (rfl) d_B_isName_17 (⟨ret_f (decide_eq_false (fun q => absurd h9 (Int32.not_lt.mpr ((kd_8 x).mp q).2))), rfl⟩)
    · skip
      refine v_iconst h0 d_B_isName_12 (v := nI 1) (by decide) ?_
      refine v_goto h0 d_B_isName_13 rfl ?_
      exact v_zret h0 hC hR (rfl) d_B_isName_17 (⟨ret_t (decide_eq_true ((kd_8 x).mpr ⟨i_nlt h3, i_nlt h9⟩)), rfl⟩)
set_option maxHeartbeats 4000000 in
theorem m_B_isLocal (l : Launch) (g : Gd) (hI : sI (sB g)) (M : Me) (x : Int32) : CB l g y_B_isLocal c_B_isLocal 1 (some .boolean) 1 [.int x] M (fun r M' => r = some (.int (bI (kdB 9 x))) ∧ M = M') := by
  refine Ct.of hI (sB_N0 g) rfl (Nat.le_of_ble_eq_true rfl) (fun K h0 hC hR hkl hn => ?_)
  have hC : Cx (sB g) K gC_B _ := hC
  show V K (wp (sB g)) M 0 [(0, .int x)] []
  refine v_iload_n h0 d_B_isLocal_0 0 rfl ?_
  refine v_bipush h0 d_B_isLocal_1 (v := nI 107) (by decide) ?_
  refine v_icmp_lt h0 d_B_isLocal_3 rfl (fun h3 => ?_) (fun h3 => ?_)
  · skip
    refine v_iconst h0 d_B_isLocal_16 (v := nI 0) (by decide) ?_
    exact v_zret h0 hC hR (rfl) d_B_isLocal_17 (⟨ret_f (decide_eq_false (fun q => absurd h3 (Int32.not_lt.mpr ((kd_9 x).mp q).1))), rfl⟩)
  · skip
    refine v_iload_n h0 d_B_isLocal_6 0 rfl ?_
    refine v_bipush h0 d_B_isLocal_7 (v := nI 112) (by decide) ?_
    refine v_icmp_gt h0 d_B_isLocal_9 rfl (fun h9 => ?_) (fun h9 => ?_)
    · skip
      refine v_iconst h0 d_B_isLocal_16 (v := nI 0) (by decide) ?_
      exact v_zret h0 hC hR (rfl) d_B_isLocal_17 (⟨ret_f (decide_eq_false (fun q => absurd h9 (Int32.not_lt.mpr ((kd_9 x).mp q).2))), rfl⟩)
    · skip
      refine v_iconst h0 d_B_isLocal_12 (v := nI 1) (by decide) ?_
      refine v_goto h0 d_B_isLocal_13 rfl ?_
      exact v_zret h0 hC hR (rfl) d_B_isLocal_17 (⟨ret_t (decide_eq_true ((kd_9 x).mpr ⟨i_nlt h3, i_nlt h9⟩)), rfl⟩)
set_option maxHeartbeats 4000000 in
theorem m_Mo_isCell (l : Launch) (g : Gd) (hI : sI (sR g)) (M : Me) (x : Int32) : CR l g y_Mo_isCell c_Mo_isCell 1 (some .boolean) 1 [.int x] M (fun r M' => r = some (.int (bI (inB x))) ∧ M = M') := by
  refine Ct.of hI (sR_N0 g) rfl (Nat.le_of_ble_eq_true rfl) (fun K h0 hC hR hkl hn => ?_)
  have hC : Cx (sR g) K gC_Mo _ := hC
  show V K (wp (sR g)) M 0 [(0, .int x)] []
  refine v_iload_n h0 d_Mo_isCell_0 0 rfl ?_
  refine v_if_lt h0 d_Mo_isCell_1 rfl (fun h1 => ?_) (fun h1 => ?_)
  · skip
    refine v_iconst h0 d_Mo_isCell_14 (v := nI 0) (by decide) ?_
    exact v_zret h0 hC hR (rfl) d_Mo_isCell_15 (⟨ret_f (decide_eq_false (fun q => absurd h1 (Int32.not_lt.mpr q.1))), rfl⟩)
  · skip
    refine v_iload_n h0 d_Mo_isCell_4 0 rfl ?_
    refine v_bipush h0 d_Mo_isCell_5 (v := nI 9) (by decide) ?_
    refine v_icmp_gt h0 d_Mo_isCell_7 rfl (fun h7 => ?_) (fun h7 => ?_)
    · skip
      refine v_iconst h0 d_Mo_isCell_14 (v := nI 0) (by decide) ?_
      exact v_zret h0 hC hR (rfl) d_Mo_isCell_15 (⟨ret_f (decide_eq_false (fun q => absurd h7 (Int32.not_le.mpr q.2))), rfl⟩)
    · skip
      refine v_iconst h0 d_Mo_isCell_10 (v := nI 1) (by decide) ?_
      refine v_goto h0 d_Mo_isCell_11 rfl ?_
      exact v_zret h0 hC hR (rfl) d_Mo_isCell_15 (⟨ret_t (decide_eq_true ⟨i_nlt h1, i_nle h7⟩), rfl⟩)
set_option maxHeartbeats 4000000 in
theorem m_Mo_isDigit (l : Launch) (g : Gd) (hI : sI (sR g)) (M : Me) (x : Int32) : CR l g y_Mo_isDigit c_Mo_isDigit 1 (some .boolean) 1 [.int x] M (fun r M' => r = some (.int (bI (kdB 7 x))) ∧ M = M') := by
  refine Ct.of hI (sR_N0 g) rfl (Nat.le_of_ble_eq_true rfl) (fun K h0 hC hR hkl hn => ?_)
  have hC : Cx (sR g) K gC_Mo _ := hC
  show V K (wp (sR g)) M 0 [(0, .int x)] []
  refine v_iload_n h0 d_Mo_isDigit_0 0 rfl ?_
  refine v_bipush h0 d_Mo_isDigit_1 (v := nI 48) (by decide) ?_
  refine v_icmp_lt h0 d_Mo_isDigit_3 rfl (fun h3 => ?_) (fun h3 => ?_)
  · skip
    refine v_iconst h0 d_Mo_isDigit_16 (v := nI 0) (by decide) ?_
    exact v_zret h0 hC hR (rfl) d_Mo_isDigit_17 (⟨ret_f (decide_eq_false (fun q => absurd h3 (Int32.not_lt.mpr ((kd_7 x).mp q).1))), rfl⟩)
  · skip
    refine v_iload_n h0 d_Mo_isDigit_6 0 rfl ?_
    refine v_bipush h0 d_Mo_isDigit_7 (v := nI 57) (by decide) ?_
    refine v_icmp_gt h0 d_Mo_isDigit_9 rfl (fun h9 => ?_) (fun h9 => ?_)
    · skip
      refine v_iconst h0 d_Mo_isDigit_16 (v := nI 0) (by decide) ?_
      exact v_zret h0 hC hR (rfl) d_Mo_isDigit_17 (⟨ret_f (decide_eq_false (fun q => absurd h9 (Int32.not_lt.mpr ((kd_7 x).mp q).2))), rfl⟩)
    · skip
      refine v_iconst h0 d_Mo_isDigit_12 (v := nI 1) (by decide) ?_
      refine v_goto h0 d_Mo_isDigit_13 rfl ?_
      exact v_zret h0 hC hR (rfl) d_Mo_isDigit_17 (⟨ret_t (decide_eq_true ((kd_7 x).mpr ⟨i_nlt h3, i_nlt h9⟩)), rfl⟩)
set_option maxHeartbeats 4000000 in
theorem m_Mo_isName (l : Launch) (g : Gd) (hI : sI (sR g)) (M : Me) (x : Int32) : CR l g y_Mo_isName c_Mo_isName 1 (some .boolean) 1 [.int x] M (fun r M' => r = some (.int (bI (kdB 8 x))) ∧ M = M') := by
  refine Ct.of hI (sR_N0 g) rfl (Nat.le_of_ble_eq_true rfl) (fun K h0 hC hR hkl hn => ?_)
  have hC : Cx (sR g) K gC_Mo _ := hC
  show V K (wp (sR g)) M 0 [(0, .int x)] []
  refine v_iload_n h0 d_Mo_isName_0 0 rfl ?_
  refine v_bipush h0 d_Mo_isName_1 (v := nI 97) (by decide) ?_
  refine v_icmp_lt h0 d_Mo_isName_3 rfl (fun h3 => ?_) (fun h3 => ?_)
  · skip
    refine v_iconst h0 d_Mo_isName_16 (v := nI 0) (by decide) ?_
    exact v_zret h0 hC hR (rfl) d_Mo_isName_17 (⟨ret_f (decide_eq_false (fun q => absurd h3 (Int32.not_lt.mpr ((kd_8 x).mp q).1))), rfl⟩)
  · skip
    refine v_iload_n h0 d_Mo_isName_6 0 rfl ?_
    refine v_bipush h0 d_Mo_isName_7 (v := nI 106) (by decide) ?_
    refine v_icmp_gt h0 d_Mo_isName_9 rfl (fun h9 => ?_) (fun h9 => ?_)
    · skip
      refine v_iconst h0 d_Mo_isName_16 (v := nI 0) (by decide) ?_
      exact v_zret h0 hC hR (rfl) d_Mo_isName_17 (⟨ret_f (decide_eq_false (fun q => absurd h9 (Int32.not_lt.mpr ((kd_8 x).mp q).2))), rfl⟩)
    · skip
      refine v_iconst h0 d_Mo_isName_12 (v := nI 1) (by decide) ?_
      refine v_goto h0 d_Mo_isName_13 rfl ?_
      exact v_zret h0 hC hR (rfl) d_Mo_isName_17 (⟨ret_t (decide_eq_true ((kd_8 x).mpr ⟨i_nlt h3, i_nlt h9⟩)), rfl⟩)
set_option maxHeartbeats 4000000 in
theorem m_Mo_isLocal (l : Launch) (g : Gd) (hI : sI (sR g)) (M : Me) (x : Int32) : CR l g y_Mo_isLocal c_Mo_isLocal 1 (some .boolean) 1 [.int x] M (fun r M' => r = some (.int (bI (kdB 9 x))) ∧ M = M') := by
  refine Ct.of hI (sR_N0 g) rfl (Nat.le_of_ble_eq_true rfl) (fun K h0 hC hR hkl hn => ?_)
  have hC : Cx (sR g) K gC_Mo _ := hC
  show V K (wp (sR g)) M 0 [(0, .int x)] []
  refine v_iload_n h0 d_Mo_isLocal_0 0 rfl ?_
  refine v_bipush h0 d_Mo_isLocal_1 (v := nI 107) (by decide) ?_
  refine v_icmp_lt h0 d_Mo_isLocal_3 rfl (fun h3 => ?_) (fun h3 => ?_)
  · skip
    refine v_iconst h0 d_Mo_isLocal_16 (v := nI 0) (by decide) ?_
    exact v_zret h0 hC hR (rfl) d_Mo_isLocal_17 (⟨ret_f (decide_eq_false (fun q => absurd h3 (Int32.not_lt.mpr ((kd_9 x).mp q).1))), rfl⟩)
  · skip
    refine v_iload_n h0 d_Mo_isLocal_6 0 rfl ?_
    refine v_bipush h0 d_Mo_isLocal_7 (v := nI 112) (by decide) ?_
    refine v_icmp_gt h0 d_Mo_isLocal_9 rfl (fun h9 => ?_) (fun h9 => ?_)
    · skip
      refine v_iconst h0 d_Mo_isLocal_16 (v := nI 0) (by decide) ?_
      exact v_zret h0 hC hR (rfl) d_Mo_isLocal_17 (⟨ret_f (decide_eq_false (fun q => absurd h9 (Int32.not_lt.mpr ((kd_9 x).mp q).2))), rfl⟩)
    · skip
      refine v_iconst h0 d_Mo_isLocal_12 (v := nI 1) (by decide) ?_
      refine v_goto h0 d_Mo_isLocal_13 rfl ?_
      exact v_zret h0 hC hR (rfl) d_Mo_isLocal_17 (⟨ret_t (decide_eq_true ((kd_9 x).mpr ⟨i_nlt h3, i_nlt h9⟩)), rfl⟩)
set_option maxHeartbeats 4000000 in
theorem m_B_hasBit (l : Launch) (g : Gd) (hI : sI (sB g)) (M : Me) (x : Int32) (i : Nat) (hi : i < 32) : CB l g y_B_hasBit c_B_hasBit 2 (some .boolean) 1 [.int x, .int (nI i)] M (fun r M' => r = some (.int (bI (bt x i))) ∧ M = M') := by
  refine Ct.of hI (sB_N0 g) rfl (Nat.le_of_ble_eq_true rfl) (fun K h0 hC hR hkl hn => ?_)
  have hC : Cx (sB g) K gC_B _ := hC
  show V K (wp (sB g)) M 0 [(0, .int x), (1, .int (nI i))] []
  refine v_iload_n h0 d_B_hasBit_0 0 rfl ?_
  refine v_iload_n h0 d_B_hasBit_1 1 rfl ?_
  refine v_ishr h0 d_B_hasBit_2 ?_
  refine v_iconst h0 d_B_hasBit_3 (v := nI 1) (by decide) ?_
  refine v_iand h0 d_B_hasBit_4 ?_
  refine v_int (bI (bt x i)) ((b_get x hi).trans rfl) ?_
  refine v_iconst h0 d_B_hasBit_5 (v := nI 1) (by decide) ?_
  refine v_icmp_ne h0 d_B_hasBit_6 rfl (fun h6 => ?_) (fun h6 => ?_)
  · skip
    refine v_iconst h0 d_B_hasBit_13 (v := nI 0) (by decide) ?_
    exact v_zret h0 hC hR (rfl) d_B_hasBit_14 (⟨ret_f (by cases hb : bt x i with | false => rfl | true => rw [hb] at h6; exact absurd rfl h6), rfl⟩)
  · skip
    refine v_iconst h0 d_B_hasBit_9 (v := nI 1) (by decide) ?_
    refine v_goto h0 d_B_hasBit_10 rfl ?_
    exact v_zret h0 hC hR (rfl) d_B_hasBit_14 (⟨ret_t (by cases hb : bt x i with | true => rfl | false => rw [hb] at h6; exact absurd h6 (by decide)), rfl⟩)
set_option maxHeartbeats 4000000 in
theorem m_Te_signAt (l : Launch) (g : Gd) (hI : sI (sB g)) (M : Me) {c n k : Nat} (hc : c < 10) (hn0 : n ≤ 24) (hk : k < 1000) (hl : M (17 + c) 2 = nI n) (hch : chS (M (27 + c))) : CB l g y_Te_signAt c_Te_signAt 2 (some .char) 1 [.ref (ga g (17 + c)), .int (nI k)] M (fun r M' => r = some (.int (sgA (M (27 + c)) n k)) ∧ M = M') := by
  refine Ct.of hI (sB_N0 g) rfl (Nat.le_of_ble_eq_true rfl) (fun K h0 hC hR hkl hn => ?_)
  have hC : Cx (sB g) K gC_Te _ := hC
  show V K (wp (sB g)) M 0 [(0, .ref (ga g (17 + c))), (1, .int (nI k))] []
  refine v_iload_n h0 d_Te_signAt_0 1 rfl ?_
  refine v_if_lt h0 d_Te_signAt_1 rfl (fun h1 => absurd h1 (nI_pos (by omega))) (fun h1 => ?_)
  refine v_iload_n h0 d_Te_signAt_4 1 rfl ?_
  refine v_aload_n h0 d_Te_signAt_5 0 rfl ?_
  refine g_Te_length h0 hC (by omega) wd_33 d_Te_signAt_6 ?_
  refine v_int (nI n) (hl) ?_
  refine n_icmp_ge h0 (by omega) (by omega) d_Te_signAt_9 rfl (fun h9 => ?_) (fun h9 => ?_)
  · skip
    refine v_iconst h0 d_Te_signAt_21 (v := nI 0) (by decide) ?_
    exact v_zret h0 hC hR (rfl) d_Te_signAt_22 (⟨by unfold sgA; rw [if_neg (by omega)]; rfl, rfl⟩)
  · skip
    refine v_aload_n h0 d_Te_signAt_12 0 rfl ?_
    refine g_Te_signs h0 hC (by omega) wd_31 d_Te_signAt_13 ?_
    refine v_iload_n h0 d_Te_signAt_16 1 rfl ?_
    refine a_B_signs h0 hC (by omega) k (rfl) (by omega) d_Te_signAt_17 ?_
    refine v_goto h0 d_Te_signAt_18 rfl ?_
    exact v_zret h0 hC hR (hch k (by omega)) d_Te_signAt_22 (⟨by unfold sgA; rw [if_pos h9], rfl⟩)
set_option maxHeartbeats 4000000 in
theorem m_Te_signAt_m (l : Launch) (g : Gd) (hI : sI (sB g)) (M : Me) {c : Nat} (hc : c < 10) : CB l g y_Te_signAt c_Te_signAt 2 (some .char) 1 [.ref (ga g (17 + c)), .int (-1)] M (fun r M' => r = some (.int (0)) ∧ M = M') := by
  refine Ct.of hI (sB_N0 g) rfl (Nat.le_of_ble_eq_true rfl) (fun K h0 hC hR hkl hn => ?_)
  have hC : Cx (sB g) K gC_Te _ := hC
  show V K (wp (sB g)) M 0 [(0, .ref (ga g (17 + c))), (1, .int (-1))] []
  refine v_iload_n h0 d_Te_signAt_0 1 rfl ?_
  refine v_if_lt h0 d_Te_signAt_1 rfl (fun h1 => ?_) (fun h1 => absurd h1 (by decide))
  refine v_iconst h0 d_Te_signAt_21 (v := nI 0) (by decide) ?_
  exact v_zret h0 hC hR (rfl) d_Te_signAt_22 (⟨rfl, rfl⟩)
set_option maxHeartbeats 4000000 in
theorem m_Te_endOf (l : Launch) (g : Gd) (hI : sI (sB g)) (M : Me) {c n k : Nat} (hc : c < 10) (hn0 : n ≤ 24) (hk : k < n) (hl : M (17 + c) 2 = nI n) : CB l g y_Te_endOf c_Te_endOf 2 (some .int) 1 [.ref (ga g (17 + c)), .int (nI k)] M (fun r M' => r = some (.int (M (37 + c) k)) ∧ M = M') := by
  refine Ct.of hI (sB_N0 g) rfl (Nat.le_of_ble_eq_true rfl) (fun K h0 hC hR hkl hn => ?_)
  have hC : Cx (sB g) K gC_Te _ := hC
  show V K (wp (sB g)) M 0 [(0, .ref (ga g (17 + c))), (1, .int (nI k))] []
  refine v_iload_n h0 d_Te_endOf_0 1 rfl ?_
  refine v_if_lt h0 d_Te_endOf_1 rfl (fun h1 => absurd h1 (nI_pos (by omega))) (fun h1 => ?_)
  refine v_iload_n h0 d_Te_endOf_4 1 rfl ?_
  refine v_aload_n h0 d_Te_endOf_5 0 rfl ?_
  refine g_Te_length h0 hC (by omega) wd_33 d_Te_endOf_6 ?_
  refine v_int (nI n) (hl) ?_
  refine n_icmp_ge h0 (by omega) (by omega) d_Te_endOf_9 rfl (fun h9 => absurd h9 (by omega)) (fun h9 => ?_)
  refine v_aload_n h0 d_Te_endOf_12 0 rfl ?_
  refine g_Te_ends h0 hC (by omega) wd_32 d_Te_endOf_13 ?_
  refine v_iload_n h0 d_Te_endOf_16 1 rfl ?_
  refine a_B_ends h0 hC (by omega) k (rfl) (by omega) d_Te_endOf_17 ?_
  refine v_goto h0 d_Te_endOf_18 rfl ?_
  exact v_iret h0 hC hR d_Te_endOf_25 (⟨rfl, rfl⟩)
set_option maxHeartbeats 4000000 in
theorem m_Te_localAt (l : Launch) (g : Gd) (hI : sI (sB g)) (M : Me) {c n k : Nat} (hc : c < 10) (hn0 : n ≤ 24) (hk : k < n) (hl : M (17 + c) 2 = nI n) (hch : chS (M (27 + c))) (h9 : kd (M (27 + c) k) = 9) : CB l g y_Te_localAt c_Te_localAt 3 (some .int) 2 [.ref (ga g (17 + c)), .int (nI k)] M (fun r M' => r = some (.int (nI (lcI (M (27 + c) k)))) ∧ M = M') := by
  refine Ct.of hI (sB_N0 g) rfl (Nat.le_of_ble_eq_true rfl) (fun K h0 hC hR hkl hn => ?_)
  have hC : Cx (sB g) K gC_Te _ := hC
  show V K (wp (sB g)) M 0 [(0, .ref (ga g (17 + c))), (1, .int (nI k))] []
  refine v_aload_n h0 d_Te_localAt_0 0 rfl ?_
  refine v_iload_n h0 d_Te_localAt_1 1 rfl ?_
  refine v_callV h0 hC (sB_N0 g) (17 + c) (show (17 + c) < 59 by omega) (eB_Te g (by omega) _) rfl (av := [.int (nI k)]) (rest := []) (m_Te_signAt (kl K) g hI M hc hn0 (by omega) hl hch) wd_197 wd_194 wd_195 wd_196 wd_3 hd_Te_signAt (by omega) (by decide) rfl rfl (Nat.le_of_ble_eq_true rfl) d_Te_localAt_2 (fun r9 M9 hp9 => ?_)
  obtain ⟨rfl, rfl⟩ := hp9
  refine v_r1 ?_
  refine v_int (M (27 + c) k) (if_pos hk) ?_
  refine v_istore_n h0 d_Te_localAt_5 (lv' := [(2, .int (M (27 + c) k)), (0, .ref (ga g (17 + c))), (1, .int (nI k))]) (lt_kn hn (by decide)) rfl ?_
  refine v_iload_n h0 d_Te_localAt_6 0 rfl ?_
  refine v_callSN h0 hC (sB_N0 g) (av := [.int (M (27 + c) k)]) (rest := []) (m_B_isLocal (kl K) g hI M _) wd_200 wn_23 wd_199 wd_1 hd_B_isLocal (by omega) (by decide) rfl rfl (Nat.le_of_ble_eq_true rfl) d_Te_localAt_7 (fun r9 M9 hp9 => ?_)
  obtain ⟨rfl, rfl⟩ := hp9
  refine v_r1 ?_
  refine b_if_eq h0 d_Te_localAt_10 rfl (fun h10 => absurd h10 (by rw [show kdB 9 (M (27 + c) k) = true from decide_eq_true h9]; decide)) (fun h10 => ?_)
  refine v_iload_n h0 d_Te_localAt_13 0 rfl ?_
  refine v_bipush h0 d_Te_localAt_14 (v := nI 107) (by decide) ?_
  refine v_isub h0 d_Te_localAt_16 ?_
  refine v_int (nI (lcI (M (27 + c) k))) ((lc_of h9).2) ?_
  refine v_goto h0 d_Te_localAt_17 rfl ?_
  exact v_iret h0 hC hR d_Te_localAt_21 (⟨rfl, rfl⟩)
set_option maxHeartbeats 4000000 in
theorem m_Te_isFunction (l : Launch) (g : Gd) (hI : sI (sB g)) (M : Me) {c : Nat} (hc : c < 10) : CB l g y_Te_isFunction c_Te_isFunction 1 (some .boolean) 1 [.ref (ga g (17 + c))] M (fun r M' => r = some (.int (bI (fuB M c))) ∧ M = M') := by
  refine Ct.of hI (sB_N0 g) rfl (Nat.le_of_ble_eq_true rfl) (fun K h0 hC hR hkl hn => ?_)
  have hC : Cx (sB g) K gC_Te _ := hC
  show V K (wp (sB g)) M 0 [(0, .ref (ga g (17 + c)))] []
  refine v_aload_n h0 d_Te_isFunction_0 0 rfl ?_
  refine g_Te_wellFormed h0 hC (by omega) wd_37 d_Te_isFunction_1 ?_
  refine v_if_eq h0 d_Te_isFunction_4 rfl (fun h4 => ?_) (fun h4 => ?_)
  · skip
    refine v_iconst h0 d_Te_isFunction_19 (v := nI 0) (by decide) ?_
    exact v_zret h0 hC hR (rfl) d_Te_isFunction_20 (⟨ret_f (decide_eq_false (fun q => q.1 h4)), rfl⟩)
  · skip
    refine v_aload_n h0 d_Te_isFunction_7 0 rfl ?_
    refine g_Te_start h0 hC (by omega) wd_34 d_Te_isFunction_8 ?_
    refine v_iconst h0 d_Te_isFunction_11 (v := nI 2) (by decide) ?_
    refine v_icmp_ne h0 d_Te_isFunction_12 rfl (fun h12 => ?_) (fun h12 => ?_)
    · skip
      refine v_iconst h0 d_Te_isFunction_19 (v := nI 0) (by decide) ?_
      exact v_zret h0 hC hR (rfl) d_Te_isFunction_20 (⟨ret_f (decide_eq_false (fun q => h12 q.2)), rfl⟩)
    · skip
      refine v_iconst h0 d_Te_isFunction_15 (v := nI 1) (by decide) ?_
      refine v_goto h0 d_Te_isFunction_16 rfl ?_
      exact v_zret h0 hC hR (rfl) d_Te_isFunction_20 (⟨ret_t (decide_eq_true ⟨h4, h12⟩), rfl⟩)
set_option maxHeartbeats 4000000 in
theorem m_Ce_isEmpty (l : Launch) (g : Gd) (hI : sI (sB g)) (M : Me) {c : Nat} (hc : c < 10) : CB l g y_Ce_isEmpty c_Ce_isEmpty 1 (some .boolean) 1 [.ref (ga g (7 + c))] M (fun r M' => r = some (.int (bI (decide (M (7 + c) 1 = -1)))) ∧ M = M') := by
  refine Ct.of hI (sB_N0 g) rfl (Nat.le_of_ble_eq_true rfl) (fun K h0 hC hR hkl hn => ?_)
  have hC : Cx (sB g) K gC_Ce _ := hC
  show V K (wp (sB g)) M 0 [(0, .ref (ga g (7 + c)))] []
  refine v_aload_n h0 d_Ce_isEmpty_0 0 rfl ?_
  refine g_Ce_name h0 hC (by omega) wd_60 d_Ce_isEmpty_1 ?_
  refine v_iconst h0 d_Ce_isEmpty_4 (v := -1) (by decide) ?_
  refine v_icmp_ne h0 d_Ce_isEmpty_5 rfl (fun h5 => ?_) (fun h5 => ?_)
  · skip
    refine v_iconst h0 d_Ce_isEmpty_12 (v := nI 0) (by decide) ?_
    exact v_zret h0 hC hR (rfl) d_Ce_isEmpty_13 (⟨ret_f (decide_eq_false h5), rfl⟩)
  · skip
    refine v_iconst h0 d_Ce_isEmpty_8 (v := nI 1) (by decide) ?_
    refine v_goto h0 d_Ce_isEmpty_9 rfl ?_
    exact v_zret h0 hC hR (rfl) d_Ce_isEmpty_13 (⟨ret_t (decide_eq_true h5), rfl⟩)
set_option maxHeartbeats 4000000 in
theorem m_Ce_nameBit (l : Launch) (g : Gd) (hI : sI (sB g)) (M : Me) {c : Nat} (hc : c < 10) : CB l g y_Ce_nameBit c_Ce_nameBit 1 (some .int) 2 [.ref (ga g (7 + c))] M (fun r M' => r = some (.int (nbI (M (7 + c) 1))) ∧ M = M') := by
  refine Ct.of hI (sB_N0 g) rfl (Nat.le_of_ble_eq_true rfl) (fun K h0 hC hR hkl hn => ?_)
  have hC : Cx (sB g) K gC_Ce _ := hC
  show V K (wp (sB g)) M 0 [(0, .ref (ga g (7 + c)))] []
  refine v_aload_n h0 d_Ce_nameBit_0 0 rfl ?_
  refine v_callV h0 hC (sB_N0 g) (7 + c) (show (7 + c) < 59 by omega) (eB_Ce g (by omega) _) rfl (av := []) (rest := []) (m_Ce_isEmpty (kl K) g hI M hc) wd_183 wd_180 wd_181 wd_182 wd_2 hd_Ce_isEmpty (by omega) (by decide) rfl rfl (Nat.le_of_ble_eq_true rfl) d_Ce_nameBit_1 (fun r9 M9 hp9 => ?_)
  obtain ⟨rfl, rfl⟩ := hp9
  refine v_r1 ?_
  refine b_if_eq h0 d_Ce_nameBit_4 rfl (fun h4 => ?_) (fun h4 => ?_)
  · skip
    refine v_iconst h0 d_Ce_nameBit_11 (v := nI 1) (by decide) ?_
    refine v_aload_n h0 d_Ce_nameBit_12 0 rfl ?_
    refine g_Ce_name h0 hC (by omega) wd_60 d_Ce_nameBit_13 ?_
    refine v_ishl h0 d_Ce_nameBit_16 ?_
    exact v_iret h0 hC hR d_Ce_nameBit_17 (⟨by unfold nbI; rw [if_neg (of_decide_eq_false h4)]; rfl, rfl⟩)
  · skip
    refine v_iconst h0 d_Ce_nameBit_7 (v := nI 0) (by decide) ?_
    refine v_goto h0 d_Ce_nameBit_8 rfl ?_
    exact v_iret h0 hC hR d_Ce_nameBit_17 (⟨by unfold nbI; rw [if_pos (of_decide_eq_true h4)]; rfl, rfl⟩)
set_option maxHeartbeats 4000000 in
theorem m_Ce_shown (l : Launch) (g : Gd) (hI : sI (sB g)) (M : Me) {c : Nat} (hc : c < 10) : CB l g y_Ce_shown c_Ce_shown 1 (some .int) 2 [.ref (ga g (7 + c))] M (fun r M' => r = some (.int (shI M c)) ∧ M = M') := by
  refine Ct.of hI (sB_N0 g) rfl (Nat.le_of_ble_eq_true rfl) (fun K h0 hC hR hkl hn => ?_)
  have hC : Cx (sB g) K gC_Ce _ := hC
  show V K (wp (sB g)) M 0 [(0, .ref (ga g (7 + c)))] []
  refine v_aload_n h0 d_Ce_shown_0 0 rfl ?_
  refine v_callV h0 hC (sB_N0 g) (7 + c) (show (7 + c) < 59 by omega) (eB_Ce g (by omega) _) rfl (av := []) (rest := []) (m_Ce_isEmpty (kl K) g hI M hc) wd_183 wd_180 wd_181 wd_182 wd_2 hd_Ce_isEmpty (by omega) (by decide) rfl rfl (Nat.le_of_ble_eq_true rfl) d_Ce_shown_1 (fun r9 M9 hp9 => ?_)
  obtain ⟨rfl, rfl⟩ := hp9
  refine v_r1 ?_
  refine b_if_eq h0 d_Ce_shown_4 rfl (fun h4 => ?_) (fun h4 => ?_)
  · skip
    refine v_aload_n h0 d_Ce_shown_9 0 rfl ?_
    refine g_Ce_fault h0 hC (by omega) wd_62 d_Ce_shown_10 ?_
    refine v_if_eq h0 d_Ce_shown_13 rfl (fun h13 => ?_) (fun h13 => ?_)
    · skip
      refine v_aload_n h0 d_Ce_shown_21 0 rfl ?_
      refine g_Ce_stale h0 hC (by omega) wd_64 d_Ce_shown_22 ?_
      refine v_if_eq h0 d_Ce_shown_25 rfl (fun h25 => ?_) (fun h25 => ?_)
      · skip
        refine v_aload_n h0 d_Ce_shown_33 0 rfl ?_
        refine g_Ce_result h0 hC (by omega) wd_66 d_Ce_shown_34 ?_
        exact v_iret h0 hC hR d_Ce_shown_37 (⟨by unfold shI; rw [if_neg (of_decide_eq_false h4), if_pos h13, if_pos h25], rfl⟩)
      · skip
        refine v_bipush h0 d_Ce_shown_28 (v := nI 12) (by decide) ?_
        refine v_goto h0 d_Ce_shown_30 rfl ?_
        exact v_iret h0 hC hR d_Ce_shown_37 (⟨by unfold shI; rw [if_neg (of_decide_eq_false h4), if_pos h13, if_neg h25]; rfl, rfl⟩)
    · skip
      refine v_aload_n h0 d_Ce_shown_16 0 rfl ?_
      refine g_Ce_fault h0 hC (by omega) wd_62 d_Ce_shown_17 ?_
      exact v_iret h0 hC hR d_Ce_shown_20 (⟨by unfold shI; rw [if_neg (of_decide_eq_false h4), if_neg h13], rfl⟩)
  · skip
    refine v_iconst h0 d_Ce_shown_7 (v := nI 0) (by decide) ?_
    exact v_iret h0 hC hR d_Ce_shown_8 (⟨by unfold shI; rw [if_pos (of_decide_eq_true h4)]; rfl, rfl⟩)
set_option maxHeartbeats 4000000 in
theorem m_Ce_isUsable (l : Launch) (g : Gd) (hI : sI (sB g)) (M : Me) {c : Nat} (hc : c < 10) : CB l g y_Ce_isUsable c_Ce_isUsable 2 (some .boolean) 3 [.ref (ga g (7 + c))] M (fun r M' => r = some (.int (bI (decide (shI M c = 14 ∨ shI M c = 13)))) ∧ M = M') := by
  refine Ct.of hI (sB_N0 g) rfl (Nat.le_of_ble_eq_true rfl) (fun K h0 hC hR hkl hn => ?_)
  have hC : Cx (sB g) K gC_Ce _ := hC
  show V K (wp (sB g)) M 0 [(0, .ref (ga g (7 + c)))] []
  refine v_aload_n h0 d_Ce_isUsable_0 0 rfl ?_
  refine v_callV h0 hC (sB_N0 g) (7 + c) (show (7 + c) < 59 by omega) (eB_Ce g (by omega) _) rfl (av := []) (rest := []) (m_Ce_shown (kl K) g hI M hc) wd_323 wd_320 wd_321 wd_322 wd_2 hd_Ce_shown (by omega) (by decide) rfl rfl (Nat.le_of_ble_eq_true rfl) d_Ce_isUsable_1 (fun r9 M9 hp9 => ?_)
  obtain ⟨rfl, rfl⟩ := hp9
  refine v_r1 ?_
  refine v_istore_n h0 d_Ce_isUsable_4 (lv' := [(1, .int (shI M c)), (0, .ref (ga g (7 + c)))]) (lt_kn hn (by decide)) rfl ?_
  refine v_iload_n h0 d_Ce_isUsable_5 0 rfl ?_
  refine v_bipush h0 d_Ce_isUsable_6 (v := nI 14) (by decide) ?_
  refine v_icmp_eq h0 d_Ce_isUsable_8 rfl (fun h8 => ?_) (fun h8 => ?_)
  · skip
    refine v_iconst h0 d_Ce_isUsable_17 (v := nI 1) (by decide) ?_
    refine v_goto h0 d_Ce_isUsable_18 rfl ?_
    exact v_zret h0 hC hR (rfl) d_Ce_isUsable_22 (⟨ret_t (decide_eq_true (Or.inl h8)), rfl⟩)
  · skip
    refine v_iload_n h0 d_Ce_isUsable_11 0 rfl ?_
    refine v_bipush h0 d_Ce_isUsable_12 (v := nI 13) (by decide) ?_
    refine v_icmp_ne h0 d_Ce_isUsable_14 rfl (fun h14 => ?_) (fun h14 => ?_)
    · skip
      refine v_iconst h0 d_Ce_isUsable_21 (v := nI 0) (by decide) ?_
      exact v_zret h0 hC hR (rfl) d_Ce_isUsable_22 (⟨ret_f (decide_eq_false (fun q => q.elim h8 h14)), rfl⟩)
    · skip
      refine v_iconst h0 d_Ce_isUsable_17 (v := nI 1) (by decide) ?_
      refine v_goto h0 d_Ce_isUsable_18 rfl ?_
      exact v_zret h0 hC hR (rfl) d_Ce_isUsable_22 (⟨ret_t (decide_eq_true (Or.inr h14)), rfl⟩)
set_option maxHeartbeats 4000000 in
theorem m_B_definerOf (l : Launch) (g : Gd) (hI : sI (sB g)) (M : Me) {x : Int32} (hx : kd x = 8) : CB l g y_B_definerOf c_B_definerOf 2 (some (.object "CellBook$Cell")) 2 [.ref (ga g 2), .int x] M (fun r M' => r = some (va_rf (dcC g (M 2 (nmI x)))) ∧ M = M') := by
  refine Ct.of hI (sB_N0 g) rfl (Nat.le_of_ble_eq_true rfl) (fun K h0 hC hR hkl hn => ?_)
  have hC : Cx (sB g) K gC_B _ := hC
  show V K (wp (sB g)) M 0 [(0, .ref (ga g 2)), (1, .int x)] []
  refine v_iload_n h0 d_B_definerOf_0 1 rfl ?_
  refine v_callS h0 hC (sB_N0 g) (av := [.int x]) (rest := []) (m_B_isName (kl K) g hI M _) wd_227 wd_350 wd_226 wd_1 hd_B_isName (by omega) (by decide) rfl rfl (Nat.le_of_ble_eq_true rfl) d_B_definerOf_1 (fun r9 M9 hp9 => ?_)
  obtain ⟨rfl, rfl⟩ := hp9
  refine v_r1 ?_
  refine b_if_eq h0 d_B_definerOf_4 rfl (fun h4 => absurd h4 (by rw [show kdB 8 x = true from decide_eq_true hx]; decide)) (fun h4 => ?_)
  refine v_aload_n h0 d_B_definerOf_7 0 rfl ?_
  refine v_iload_n h0 d_B_definerOf_8 1 rfl ?_
  refine v_bipush h0 d_B_definerOf_9 (v := nI 97) (by decide) ?_
  refine v_isub h0 d_B_definerOf_11 ?_
  refine a_B_defs h0 hC (nmI x) ((nm_of hx).2) ((nm_of hx).1) d_B_definerOf_12 ?_
  refine v_goto h0 d_B_definerOf_13 rfl ?_
  exact v_aret h0 hC hR (va_rf_or _) d_B_definerOf_17 (⟨rfl, rfl⟩)
end
section
/-! READING A TEXT (the book) -/
/-- while cell c's text is read, only its names and its ends change -/
def rdM (M : Me) (c : Nat) (a : Int32) (e : Nat → Int32) : Me := upR (up2 M (17 + c) 5 a) (37 + c) e
theorem rdM_o (M : Me) (c : Nat) (a : Int32) (e : Nat → Int32) {i : Nat} (h1 : i ≠ 17 + c) (h2 : i ≠ 37 + c) : rdM M c a e i = M i := by
  unfold rdM up2
  rw [upR_n _ _ h2, upR_n _ _ h1]
theorem rdM_e (M : Me) (c : Nat) (a : Int32) (e : Nat → Int32) : rdM M c a e (37 + c) = e := upR_s _ _ _
theorem rdM_t (M : Me) (c : Nat) (a : Int32) (e : Nat → Int32) : rdM M c a e (17 + c) = upd (M (17 + c)) 5 a := by
  unfold rdM up2
  rw [upR_n _ _ (by omega), upR_s]
theorem rdM_rdM (M : Me) (c : Nat) (a a' : Int32) (e e' : Nat → Int32) : rdM (rdM M c a e) c a' e' = rdM M c a' e' := by
  funext i
  by_cases h2 : i = 37 + c
  · subst h2; rw [rdM_e, rdM_e]
  · by_cases h1 : i = 17 + c
    · subst h1
      rw [rdM_t, rdM_t, rdM_t]
      funext j
      unfold upd
      by_cases hj : j = 5
      · rw [if_pos hj, if_pos hj]
      · rw [if_neg hj, if_neg hj, if_neg hj]
    · rw [rdM_o _ _ _ _ h1 h2, rdM_o _ _ _ _ h1 h2, rdM_o _ _ _ _ h1 h2]
theorem rdM_id (M : Me) (c : Nat) : M = rdM M c (M (17 + c) 5) (M (37 + c)) := by
  funext i
  by_cases h2 : i = 37 + c
  · subst h2; rw [rdM_e]
  · by_cases h1 : i = 17 + c
    · subst h1
      rw [rdM_t]
      funext j
      unfold upd
      by_cases hj : j = 5
      · rw [if_pos hj, hj]
      · rw [if_neg hj]
    · rw [rdM_o _ _ _ _ h1 h2]
theorem rdM_nm (M : Me) (c : Nat) (a : Int32) : up2 M (17 + c) 5 a = rdM M c a (M (37 + c)) := by
  funext i
  unfold rdM
  by_cases h2 : i = 37 + c
  · subst h2
    rw [upR_s]
    unfold up2
    rw [upR_n _ _ (by omega)]
  · rw [upR_n _ _ h2]
theorem rdM_en (M : Me) (c k : Nat) (a v : Int32) (e : Nat → Int32) : up2 (rdM M c a e) (37 + c) k v = rdM M c a (upd e k v) := by
  unfold up2
  rw [rdM_e]
  funext i
  by_cases h2 : i = 37 + c
  · subst h2; rw [upR_s, rdM_e]
  · rw [upR_n _ _ h2]
    unfold rdM
    rw [upR_n _ _ h2, upR_n _ _ h2]
/-- cell c's text: its signs, its length, the names so far, the ends so far -/
def TX (M : Me) (c : Nat) (s : Nat → Int32) (n : Nat) (a : Int32) (e : Nat → Int32) : Prop := M (27 + c) = s ∧ M (17 + c) 2 = nI n ∧ M (17 + c) 5 = a ∧ M (37 + c) = e ∧ chS s ∧ n ≤ 24
theorem TX.rd {M : Me} {c n : Nat} {s e : Nat → Int32} {a : Int32} (h : TX M c s n a e) (a' : Int32) (e' : Nat → Int32) : TX (rdM M c a' e') c s n a' e' := by
  refine ⟨?_, ?_, ?_, rdM_e _ _ _ _, h.2.2.2.2⟩
  · rw [rdM_o _ _ _ _ (by omega) (by omega)]; exact h.1
  · rw [rdM_t]; exact h.2.1
  · rw [rdM_t]; rfl
theorem TX.id {M : Me} {c n : Nat} {s e : Nat → Int32} {a : Int32} (h : TX M c s n a e) : M = rdM M c a e := by
  obtain ⟨-, -, rfl, rfl, -⟩ := h
  exact rdM_id M c
def BM (x : Int32) (b : Nat → Bool) : Prop := ∀ j, j < 6 → bt x j = b j
theorem BM.set {x : Int32} {b : Nat → Bool} (h : BM x b) {i : Nat} (hi : i < 6) : BM (x ||| (1 <<< (nI i &&& 31))) (bSet b i) := by
  intro j hj
  rw [b_or, b_bit (by omega) (by omega), h j hj]
  unfold bSet
  rw [Bool.or_comm]
  by_cases q : j = i
  · subst q; simp
  · simp [q]
theorem kd_sg {s : Nat → Int32} {n k j : Nat} (hj : j ≠ 0) (h : kd (sgA s n k) = j) : k < n ∧ sgA s n k = s k := by
  unfold sgA at h ⊢
  by_cases hk : k < n
  · rw [if_pos hk]; exact ⟨hk, rfl⟩
  · rw [if_neg hk] at h
    exact absurd (h.symm.trans (by decide : kd 0 = 0)) hj
theorem or0 (a : Int32) : a ||| 0 = a := b_ext (fun i _ => by rw [b_or, b_0, Bool.or_false])
theorem ora (a b c : Int32) : (a ||| b) ||| c = a ||| (b ||| c) := b_ext (fun i _ => by simp only [b_or, Bool.or_assoc])
theorem kdB_t {j : Nat} {x : Int32} (h : kdB j x = true) : kd x = j := of_decide_eq_true h
theorem kdB_f {j : Nat} {x : Int32} (h : kdB j x = false) : ¬ kd x = j := of_decide_eq_false h
def SgP (s : Nat → Int32) (n d : Nat) (b : Nat → Bool) (k c : Nat) (M : Me) (a : Int32) (e : Nat → Int32) (r : Option Value) (M' : Me) : Prop :=
  ∃ a' e', M' = rdM M c a' e' ∧ ((OK s n (d + 1) b k = true ∧ r = some (.int (nI (EN s (d + 1) k))) ∧ a' = a ||| NM s (d + 1) k ∧ EO s (upd e' k (nI (EN s (d + 1) k))) (d + 1) k ∧ ∀ j, j ≤ k ∨ EN s (d + 1) k ≤ j → e' j = e j) ∨ (OK s n (d + 1) b k = false ∧ r = some (.int (-1))))
def RdP (s : Nat → Int32) (n d : Nat) (b : Nat → Bool) (k c : Nat) (M : Me) (a : Int32) (e : Nat → Int32) (r : Option Value) (M' : Me) : Prop :=
  ∃ a' e', M' = rdM M c a' e' ∧ ((OK s n d b k = true ∧ r = some (.int (nI (EN s d k))) ∧ a' = a ||| NM s d k ∧ EO s e' d k ∧ ∀ j, j < k ∨ EN s d k ≤ j → e' j = e j) ∨ (OK s n d b k = false ∧ r = some (.int (-1))))
/-- several expressions, one behind the other -/
def ENs (s : Nat → Int32) (d : Nat) : Nat → Nat → Nat
  | 0, k => k
  | i + 1, k => ENs s d i (EN s d k)
def OKs (s : Nat → Int32) (n d : Nat) (b : Nat → Bool) : Nat → Nat → Bool
  | 0, _ => true
  | i + 1, k => OK s n d b k && OKs s n d b i (EN s d k)
def NMs (s : Nat → Int32) (d : Nat) : Nat → Nat → Int32
  | 0, _ => 0
  | i + 1, k => NM s d k ||| NMs s d i (EN s d k)
def EOs (s e : Nat → Int32) (d : Nat) : Nat → Nat → Prop
  | 0, _ => True
  | i + 1, k => EO s e d k ∧ EOs s e d i (EN s d k)
theorem ENs_ge {s : Nat → Int32} {n d : Nat} {b : Nat → Bool} : ∀ i k, OKs s n d b i k = true → k ≤ ENs s d i k ∧ (k ≤ n → ENs s d i k ≤ n) := by
  intro i
  induction i with
  | zero => intro k _; exact ⟨Nat.le_refl _, fun h => h⟩
  | succ i ih =>
    intro k h
    simp only [OKs, Bool.and_eq_true] at h
    have h1 := OK_ends s n d b k h.1
    have h2 := ih _ h.2
    simp only [ENs]
    exact ⟨by omega, fun _ => h2.2 h1.2⟩
theorem EOs_same {s e e' : Nat → Int32} {n d : Nat} {b : Nat → Bool} : ∀ i k, OKs s n d b i k = true → (∀ j, k ≤ j → j < ENs s d i k → e' j = e j) → EOs s e d i k → EOs s e' d i k := by
  intro i
  induction i with
  | zero => intro k _ _ _; trivial
  | succ i ih =>
    intro k h hj ho
    simp only [OKs, Bool.and_eq_true] at h
    have h1 := OK_ends s n d b k h.1
    have h2 := (ENs_ge i _ h.2).1
    simp only [ENs] at hj
    exact ⟨EO_same d b k h.1 (fun j a c => hj j a (by omega)) ho.1, ih _ h.2 (fun j a c => hj j (by omega) c) ho.2⟩
def RsP (s : Nat → Int32) (n d : Nat) (b : Nat → Bool) (i k c : Nat) (M : Me) (a : Int32) (e : Nat → Int32) (r : Option Value) (M' : Me) : Prop :=
  ∃ a' e', M' = rdM M c a' e' ∧ ((OKs s n d b i k = true ∧ r = some (.int (nI (ENs s d i k))) ∧ a' = a ||| NMs s d i k ∧ EOs s e' d i k ∧ ∀ j, j < k ∨ ENs s d i k ≤ j → e' j = e j) ∨ (OKs s n d b i k = false ∧ r = some (.int (-1))))

set_option maxHeartbeats 4000000 in
theorem m_Te_readName (l : Launch) (g : Gd) (hI : sI (sB g)) (M : Me) {c n k : Nat} {s e : Nat → Int32} {a : Int32} (hc : c < 10) (hk : k < 40) (hT : TX M c s n a e) : CB l g y_Te_readName c_Te_readName 3 (some .int) 2 [.ref (ga g (17 + c)), .int (nI k)] M (fun r M' => (k < n ∧ kd (s k) = 8 ∧ r = some (.int (nI (k + 1))) ∧ M' = rdM M c (a ||| (1 <<< (nI (nmI (s k)) &&& 31))) e) ∨ (¬ (k < n ∧ kd (s k) = 8) ∧ r = some (.int (-1)) ∧ M = M')) := by
  obtain ⟨rfl, hl, rfl, rfl, hch, hn24⟩ := hT
  refine Ct.of hI (sB_N0 g) rfl (Nat.le_of_ble_eq_true rfl) (fun K h0 hC hR hkl hn => ?_)
  have hC : Cx (sB g) K gC_Te _ := hC
  show V K (wp (sB g)) M 0 [(0, .ref (ga g (17 + c))), (1, .int (nI k))] []
  refine v_aload_n h0 d_Te_readName_0 0 rfl ?_
  refine v_iload_n h0 d_Te_readName_1 1 rfl ?_
  refine v_callV h0 hC (sB_N0 g) (17 + c) (show (17 + c) < 59 by omega) (eB_Te g (by omega) _) rfl (av := [.int (nI k)]) (rest := []) (m_Te_signAt (kl K) g hI M hc hn24 (by omega) hl hch) wd_197 wd_194 wd_195 wd_196 wd_3 hd_Te_signAt (by omega) (by decide) rfl rfl (Nat.le_of_ble_eq_true rfl) d_Te_readName_2 (fun r9 M9 hp9 => ?_)
  obtain ⟨rfl, rfl⟩ := hp9
  refine v_r1 ?_
  refine v_istore_n h0 d_Te_readName_5 (lv' := [(2, .int (sgA (M (27 + c)) n k)), (0, .ref (ga g (17 + c))), (1, .int (nI k))]) (lt_kn hn (by decide)) rfl ?_
  refine v_iload_n h0 d_Te_readName_6 0 rfl ?_
  refine v_callSN h0 hC (sB_N0 g) (av := [.int (sgA (M (27 + c)) n k)]) (rest := []) (m_B_isName (kl K) g hI M _) wd_227 wn_24 wd_226 wd_1 hd_B_isName (by omega) (by decide) rfl rfl (Nat.le_of_ble_eq_true rfl) d_Te_readName_7 (fun r9 M9 hp9 => ?_)
  obtain ⟨rfl, rfl⟩ := hp9
  refine v_r1 ?_
  refine b_if_ne h0 d_Te_readName_10 rfl (fun h10 => ?_) (fun h10 => ?_)
  · skip
    obtain ⟨hkn, hse⟩ := kd_sg (by decide) (kdB_t h10)
    have h8 := kdB_t h10
    rw [hse] at h8
    refine v_aload_n h0 d_Te_readName_15 1 rfl ?_
    refine v_dup h0 d_Te_readName_16 rfl ?_
    refine g_Te_names h0 hC (by omega) wd_39 d_Te_readName_17 ?_
    refine v_iconst h0 d_Te_readName_20 (v := nI 1) (by decide) ?_
    refine v_iload_n h0 d_Te_readName_21 0 rfl ?_
    refine v_bipush h0 d_Te_readName_22 (v := nI 97) (by decide) ?_
    refine v_isub h0 d_Te_readName_24 ?_
    refine v_int (M (27 + c) k - nI 97) (by rw [hse]) ?_
    refine v_int (nI (nmI (M (27 + c) k))) ((nm_of h8).2) ?_
    refine v_ishl h0 d_Te_readName_25 ?_
    refine v_ior h0 d_Te_readName_26 ?_
    refine p_Te_names h0 hC (by omega) wd_39 d_Te_readName_27 ?_
    refine v_iload_n h0 d_Te_readName_30 2 rfl ?_
    refine v_iconst h0 d_Te_readName_31 (v := nI 1) (by decide) ?_
    refine v_iadd h0 d_Te_readName_32 ?_
    refine v_int (nI (k + 1)) (nI_add k 1) ?_
    exact v_iret h0 hC hR d_Te_readName_33 (Or.inl ⟨hkn, h8, rfl, rdM_nm _ _ _⟩)
  · skip
    refine v_iconst h0 d_Te_readName_13 (v := -1) (by decide) ?_
    exact v_iret h0 hC hR d_Te_readName_14 (Or.inr ⟨fun q => kdB_f h10 (by unfold sgA; rw [if_pos q.1]; exact q.2), rfl, rfl⟩)
theorem leaf_ok {M : Me} {c n k d : Nat} {s e : Nat → Int32} {a : Int32} {b : Nat → Bool} (hT : TX M c s n a e) (hk : k < n) (hj : kd (s k) = 7 ∨ kd (s k) = 9) (hb : kd (s k) = 9 → b (lcI (s k)) = true) : SgP s n d b k c M a e (some (.int (nI (k + 1)))) M := by
  refine ⟨a, e, hT.id, Or.inl ?_⟩
  rcases hj with q | q
  · rw [OK_7 s n d b k q, EN_7 s d k q, NM_7 s d k q, EO_7 _ _ d k q, EN_7 s d k q, or0]
    exact ⟨by simp [hk], rfl, rfl, ⟨pk_us, trivial⟩, fun _ _ => rfl⟩
  · rw [OK_9 s n d b k q, EN_9 s d k q, NM_9 s d k q, EO_9 _ _ d k q, EN_9 s d k q, or0]
    exact ⟨by simp [hk, hb q], rfl, rfl, ⟨pk_us, trivial⟩, fun _ _ => rfl⟩
theorem leaf_8 {M : Me} {c n k d : Nat} {s e : Nat → Int32} {a : Int32} {b : Nat → Bool} (hT : TX M c s n a e) (hk : k < n) (q : kd (s k) = 8) : SgP s n d b k c M a e (some (.int (nI (k + 1)))) (rdM M c (a ||| (1 <<< (nI (nmI (s k)) &&& 31))) e) := by
  refine ⟨_, e, rfl, Or.inl ?_⟩
  rw [OK_8 s n d b k q, EN_8 s d k q, NM_8 s d k q, EO_8 _ _ d k q, EN_8 s d k q]
  exact ⟨by simp [hk], rfl, rfl, ⟨pk_us, trivial⟩, fun _ _ => rfl⟩
theorem leaf_no {M : Me} {c n k d : Nat} {s e : Nat → Int32} {a : Int32} {b : Nat → Bool} (hT : TX M c s n a e) (h : OK s n (d + 1) b k = false) : SgP s n d b k c M a e (some (.int (-1))) M := ⟨a, e, hT.id, Or.inr ⟨h, rfl⟩⟩
theorem OK_0k {s : Nat → Int32} {n d k : Nat} {b : Nat → Bool} (q : kd (s k) = 0) : OK s n (d + 1) b k = false := by simp only [OK, q, Bool.and_false]
set_option maxHeartbeats 4000000 in
theorem m_Te_readLeaf (l : Launch) (g : Gd) (hI : sI (sB g)) (M : Me) {c n k d : Nat} {s e : Nat → Int32} {a bm : Int32} {b : Nat → Bool} (hc : c < 10) (hk : k < n) (hT : TX M c s n a e) (hbm : BM bm b) (hj : kd (s k) = 7 ∨ kd (s k) = 8 ∨ kd (s k) = 9 ∨ kd (s k) = 0) : CB l g y_Te_readLeaf c_Te_readLeaf 4 (some .int) 3 [.ref (ga g (17 + c)), .int (nI k), .int bm] M (SgP s n d b k c M a e) := by
  have hT0 := hT
  obtain ⟨rfl, hl, rfl, rfl, hch, hn24⟩ := hT0
  refine Ct.of hI (sB_N0 g) rfl (Nat.le_of_ble_eq_true rfl) (fun K h0 hC hR hkl hn => ?_)
  have hC : Cx (sB g) K gC_Te _ := hC
  show V K (wp (sB g)) M 0 [(0, .ref (ga g (17 + c))), (1, .int (nI k)), (2, .int bm)] []
  refine v_aload_n h0 d_Te_readLeaf_0 0 rfl ?_
  refine v_iload_n h0 d_Te_readLeaf_1 1 rfl ?_
  refine v_callV h0 hC (sB_N0 g) (17 + c) (show (17 + c) < 59 by omega) (eB_Te g (by omega) _) rfl (av := [.int (nI k)]) (rest := []) (m_Te_signAt (kl K) g hI M hc hn24 (by omega) hl hch) wd_197 wd_194 wd_195 wd_196 wd_3 hd_Te_signAt (by omega) (by decide) rfl rfl (Nat.le_of_ble_eq_true rfl) d_Te_readLeaf_2 (fun r9 M9 hp9 => ?_)
  obtain ⟨rfl, rfl⟩ := hp9
  refine v_r1 ?_
  refine v_int (M (27 + c) k) (if_pos hk) ?_
  refine v_istore_n h0 d_Te_readLeaf_5 (lv' := [(3, .int (M (27 + c) k)), (0, .ref (ga g (17 + c))), (1, .int (nI k)), (2, .int bm)]) (lt_kn hn (by decide)) rfl ?_
  refine v_iload_n h0 d_Te_readLeaf_6 0 rfl ?_
  refine v_callSN h0 hC (sB_N0 g) (av := [.int (M (27 + c) k)]) (rest := []) (m_B_isLocal (kl K) g hI M _) wd_200 wn_23 wd_199 wd_1 hd_B_isLocal (by omega) (by decide) rfl rfl (Nat.le_of_ble_eq_true rfl) d_Te_readLeaf_7 (fun r9 M9 hp9 => ?_)
  obtain ⟨rfl, rfl⟩ := hp9
  refine v_r1 ?_
  refine b_if_eq h0 d_Te_readLeaf_10 rfl (fun h10 => ?_) (fun h10 => ?_)
  · skip
    refine v_iload_n h0 d_Te_readLeaf_32 0 rfl ?_
    refine v_callSN h0 hC (sB_N0 g) (av := [.int (M (27 + c) k)]) (rest := []) (m_B_isDigit (kl K) g hI M _) wd_234 wn_25 wd_233 wd_1 hd_B_isDigit (by omega) (by decide) rfl rfl (Nat.le_of_ble_eq_true rfl) d_Te_readLeaf_33 (fun r9 M9 hp9 => ?_)
    obtain ⟨rfl, rfl⟩ := hp9
    refine v_r1 ?_
    refine b_if_eq h0 d_Te_readLeaf_36 rfl (fun h36 => ?_) (fun h36 => ?_)
    · skip
      refine v_aload_n h0 d_Te_readLeaf_45 1 rfl ?_
      refine v_iload_n h0 d_Te_readLeaf_46 2 rfl ?_
      refine v_callV h0 hC (sB_N0 g) (17 + c) (show (17 + c) < 59 by omega) (eB_Te g (by omega) _) rfl (av := [.int (nI k)]) (rest := []) (m_Te_readName (kl K) g hI M hc (by omega) hT) wd_224 wd_221 wd_223 ws_4 wd_3 hd_Te_readName (by omega) (by decide) rfl rfl (Nat.le_of_ble_eq_true rfl) d_Te_readLeaf_47 (fun r9 M9 hp9 => ?_)
      rcases hp9 with ⟨q1, q2, rfl, rfl⟩ | ⟨q1, rfl, rfl⟩
      · skip
        refine v_r1 ?_
        exact v_iret h0 hC hR d_Te_readLeaf_50 (leaf_8 hT hk q2)
      · skip
        refine v_r1 ?_
        exact v_iret h0 hC hR d_Te_readLeaf_50 (leaf_no hT (OK_0k (by rcases hj with q | q | q | q; exact absurd q (kdB_f h36); exact absurd ⟨hk, q⟩ q1; exact absurd q (kdB_f h10); exact q)))
    · skip
      refine v_iload_n h0 d_Te_readLeaf_39 2 rfl ?_
      refine v_iconst h0 d_Te_readLeaf_40 (v := nI 1) (by decide) ?_
      refine v_iadd h0 d_Te_readLeaf_41 ?_
      refine v_int (nI (k + 1)) (nI_add k 1) ?_
      refine v_goto h0 d_Te_readLeaf_42 rfl ?_
      exact v_iret h0 hC hR d_Te_readLeaf_50 (leaf_ok hT hk (Or.inl (kdB_t h36)) (fun q => absurd (q.symm.trans (kdB_t h36)) (by decide)))
  · skip
    refine v_iload_n h0 d_Te_readLeaf_13 3 rfl ?_
    refine v_iload_n h0 d_Te_readLeaf_14 0 rfl ?_
    refine v_bipush h0 d_Te_readLeaf_15 (v := nI 107) (by decide) ?_
    refine v_isub h0 d_Te_readLeaf_17 ?_
    refine v_int (nI (lcI (M (27 + c) k))) ((lc_of (kdB_t h10)).2) ?_
    refine v_callSN h0 hC (sB_N0 g) (av := [.int bm, .int (nI (lcI (M (27 + c) k)))]) (rest := []) (m_B_hasBit (kl K) g hI M bm _ (by have := (lc_of (kdB_t h10)).1; omega)) wd_241 wn_26 wd_240 wd_1 hd_B_hasBit (by omega) (by decide) rfl rfl (Nat.le_of_ble_eq_true rfl) d_Te_readLeaf_18 (fun r9 M9 hp9 => ?_)
    obtain ⟨rfl, rfl⟩ := hp9
    refine v_r1 ?_
    refine b_if_eq h0 d_Te_readLeaf_21 rfl (fun h21 => ?_) (fun h21 => ?_)
    · skip
      refine v_iconst h0 d_Te_readLeaf_30 (v := -1) (by decide) ?_
      exact v_iret h0 hC hR d_Te_readLeaf_31 (leaf_no hT (by rw [OK_9 _ n d b k (kdB_t h10), ← hbm _ (lc_of (kdB_t h10)).1, h21, Bool.and_false]))
    · skip
      refine v_iload_n h0 d_Te_readLeaf_24 2 rfl ?_
      refine v_iconst h0 d_Te_readLeaf_25 (v := nI 1) (by decide) ?_
      refine v_iadd h0 d_Te_readLeaf_26 ?_
      refine v_int (nI (k + 1)) (nI_add k 1) ?_
      refine v_goto h0 d_Te_readLeaf_27 rfl ?_
      exact v_iret h0 hC hR d_Te_readLeaf_31 (leaf_ok hT hk (Or.inr (kdB_t h10)) (fun _ => by rw [← hbm _ (lc_of (kdB_t h10)).1]; exact h21))
end
section
/-! READING EXPRESSIONS (the book), by the levels that are left -/
def RD (l : Launch) (g : Gd) (d : Nat) : Prop := ∀ (M : Me) (c n k : Nat) (s e : Nat → Int32) (a bm : Int32) (b : Nat → Bool), c < 10 → k < 40 → TX M c s n a e → BM bm b →
  CB l g y_Te_readExpression c_Te_readExpression 5 (some .int) (3 * d + 5) [.ref (ga g (17 + c)), .int (nI k), .int (nI (6 - d)), .int bm] M (RdP s n d b k c M a e)
theorem RsP_cons {s e e1 : Nat → Int32} {n d t k c : Nat} {b : Nat → Bool} {M M' : Me} {a : Int32} {r : Option Value} (hok : OK s n d b k = true) (ho : EO s e1 d k) (hf : ∀ j, j < k ∨ EN s d k ≤ j → e1 j = e j) (h : RsP s n d b t (EN s d k) c M (a ||| NM s d k) e1 r M') : RsP s n d b (t + 1) k c M a e r M' := by
  obtain ⟨a2, e2, rfl, h | h⟩ := h
  · obtain ⟨h1, h2, h3, h4, h5⟩ := h
    have hE := OK_ends s n d b k hok
    have hG := (ENs_ge t _ h1).1
    refine ⟨a2, e2, rfl, Or.inl ⟨by simp only [OKs, hok, h1, Bool.and_true], h2, by rw [h3, NMs, ora], ⟨EO_same d b k hok (fun j _ q => h5 j (Or.inl q)) ho, h4⟩, fun j hj => ?_⟩⟩
    simp only [ENs] at hj
    rcases hj with hj | hj
    · rw [h5 j (Or.inl (by omega)), hf j (Or.inl hj)]
    · rw [h5 j (Or.inr hj), hf j (Or.inr (by omega))]
  · exact ⟨a2, e2, rfl, Or.inr ⟨by simp only [OKs, h.1, Bool.and_false], h.2⟩⟩
theorem RsP_bad {s e : Nat → Int32} {n d t k c : Nat} {b : Nat → Bool} {M : Me} {a : Int32} (hok : OK s n d b k = false) (a1 : Int32) (e1 : Nat → Int32) : RsP s n d b (t + 1) k c M a e (some (.int (-1))) (rdM M c a1 e1) := ⟨a1, e1, rfl, Or.inr ⟨by simp only [OKs, hok, Bool.false_and], rfl⟩⟩
theorem sub_lev {d : Nat} (h : d + 1 ≤ 6) : nI (6 - (d + 1) + 1) = nI (6 - d) := congrArg nI (by omega)
set_option maxHeartbeats 4000000 in
theorem m_Te_readExpression_m (l : Launch) (g : Gd) (hI : sI (sB g)) (M : Me) {c : Nat} (hc : c < 10) (x y : Int32) : CB l g y_Te_readExpression c_Te_readExpression 5 (some .int) 1 [.ref (ga g (17 + c)), .int (-1), .int x, .int y] M (fun r M' => r = some (.int (-1)) ∧ M = M') := by
  refine Ct.of hI (sB_N0 g) rfl (Nat.le_of_ble_eq_true rfl) (fun K h0 hC hR hkl hn => ?_)
  have hC : Cx (sB g) K gC_Te _ := hC
  show V K (wp (sB g)) M 0 [(0, .ref (ga g (17 + c))), (1, .int (-1)), (2, .int x), (3, .int y)] []
  refine v_iload_n h0 d_Te_readExpression_0 1 rfl ?_
  refine v_if_lt h0 d_Te_readExpression_1 rfl (fun h1 => ?_) (fun h1 => absurd h1 (by decide))
  refine v_iconst h0 d_Te_readExpression_17 (v := -1) (by decide) ?_
  exact v_iret h0 hC hR d_Te_readExpression_18 (⟨rfl, rfl⟩)
set_option maxHeartbeats 4000000 in
theorem m_Te_readExpressions (l : Launch) (g : Gd) (hI : sI (sB g)) (M : Me) {c n k d m : Nat} {s e : Nat → Int32} {a bm : Int32} {b : Nat → Bool} (hc : c < 10) (hk : k < 40) (hd : d ≤ 6) (hm : m ≤ 3) (hT : TX M c s n a e) (hbm : BM bm b) (hRD : RD l g d) : CB l g y_Te_readExpressions c_Te_readExpressions 7 (some .int) (3 * d + 6) [.ref (ga g (17 + c)), .int (nI k), .int (nI m), .int (nI (6 - d)), .int bm] M (RsP s n d b m k c M a e) := by
  refine Ct.of hI (sB_N0 g) rfl (Nat.le_of_ble_eq_true rfl) (fun K h0 hC hR hkl hn => ?_)
  have hC : Cx (sB g) K gC_Te _ := hC
  show V K (wp (sB g)) M 0 [(0, .ref (ga g (17 + c))), (1, .int (nI k)), (2, .int (nI m)), (3, .int (nI (6 - d))), (4, .int bm)] []
  subst hkl
  have bad : (∀ a1 e1, RsP s n d b m k c M a e (some (.int (-1))) (rdM M c a1 e1)) → ∀ (t i : Nat) (a1 : Int32) (e1 : Nat → Int32), i + t = m → V K (wp (sB g)) (rdM M c a1 e1) 6 [(6, .int (nI i)), (5, .int (-1)), (0, .ref (ga g (17 + c))), (1, .int (nI k)), (2, .int (nI m)), (3, .int (nI (6 - d))), (4, .int bm)] [] := by
    intro hb t
    induction t with
    | zero =>
      intro i a1 e1 hi
      refine v_iload h0 d_Te_readExpressions_6 0 rfl ?_
      refine v_iload_n h0 d_Te_readExpressions_8 4 rfl ?_
      refine n_icmp_ge h0 (by omega) (by omega) d_Te_readExpressions_9 rfl (fun h9 => ?_) (fun h9 => absurd h9 (by omega))
      refine v_iload h0 d_Te_readExpressions_29 1 rfl ?_
      exact v_iret h0 hC hR d_Te_readExpressions_31 (hb a1 e1)
    | succ t ih =>
      intro i a1 e1 hi
      refine v_iload h0 d_Te_readExpressions_6 0 rfl ?_
      refine v_iload_n h0 d_Te_readExpressions_8 4 rfl ?_
      refine n_icmp_ge h0 (by omega) (by omega) d_Te_readExpressions_9 rfl (fun h9 => absurd h9 (by omega)) (fun h9 => ?_)
      refine v_aload_n h0 d_Te_readExpressions_12 2 rfl ?_
      refine v_iload h0 d_Te_readExpressions_13 1 rfl ?_
      refine v_iload_n h0 d_Te_readExpressions_15 5 rfl ?_
      refine v_iload h0 d_Te_readExpressions_16 6 rfl ?_
      refine v_callV h0 hC (sB_N0 g) (17 + c) (show (17 + c) < 59 by omega) (eB_Te g (by omega) _) rfl (av := [.int (-1), .int (nI (6 - d)), .int bm]) (rest := []) (m_Te_readExpression_m (kl K) g hI (rdM M c a1 e1) hc _ _) wd_208 wd_205 wd_207 ws_0 wd_3 hd_Te_readExpression (by omega) (by decide) rfl rfl (Nat.le_of_ble_eq_true rfl) d_Te_readExpressions_18 (fun r9 M9 hp9 => ?_)
      obtain ⟨rfl, rfl⟩ := hp9
      refine v_r1 ?_
      refine v_istore h0 d_Te_readExpressions_21 (lv' := [(5, .int (-1)), (6, .int (nI i)), (0, .ref (ga g (17 + c))), (1, .int (nI k)), (2, .int (nI m)), (3, .int (nI (6 - d))), (4, .int bm)]) (lt_kn hn (by decide)) rfl ?_
      refine v_iinc h0 d_Te_readExpressions_23 (lv' := [(6, .int (nI (i + 1))), (5, .int (-1)), (0, .ref (ga g (17 + c))), (1, .int (nI k)), (2, .int (nI m)), (3, .int (nI (6 - d))), (4, .int bm)]) 1 rfl (inc1 i) (lt_kn hn (by decide)) rfl ?_
      refine v_goto h0 d_Te_readExpressions_26 rfl ?_
      exact ih (i + 1) a1 e1 (by omega)
  have good : ∀ (t i k1 : Nat) (a1 : Int32) (e1 : Nat → Int32), i + t = m → k1 < 40 → (∀ r M', RsP s n d b t k1 c M a1 e1 r M' → RsP s n d b m k c M a e r M') → V K (wp (sB g)) (rdM M c a1 e1) 6 [(6, .int (nI i)), (5, .int (nI k1)), (0, .ref (ga g (17 + c))), (1, .int (nI k)), (2, .int (nI m)), (3, .int (nI (6 - d))), (4, .int bm)] [] := by
    intro t
    induction t with
    | zero =>
      intro i k1 a1 e1 hi hk1 hf
      refine v_iload h0 d_Te_readExpressions_6 0 rfl ?_
      refine v_iload_n h0 d_Te_readExpressions_8 4 rfl ?_
      refine n_icmp_ge h0 (by omega) (by omega) d_Te_readExpressions_9 rfl (fun h9 => ?_) (fun h9 => absurd h9 (by omega))
      refine v_iload h0 d_Te_readExpressions_29 1 rfl ?_
      exact v_iret h0 hC hR d_Te_readExpressions_31 (hf _ _ ⟨a1, e1, rfl, Or.inl ⟨rfl, rfl, by rw [NMs, or0], trivial, fun _ _ => rfl⟩⟩)
    | succ t ih =>
      intro i k1 a1 e1 hi hk1 hf
      refine v_iload h0 d_Te_readExpressions_6 0 rfl ?_
      refine v_iload_n h0 d_Te_readExpressions_8 4 rfl ?_
      refine n_icmp_ge h0 (by omega) (by omega) d_Te_readExpressions_9 rfl (fun h9 => absurd h9 (by omega)) (fun h9 => ?_)
      refine v_aload_n h0 d_Te_readExpressions_12 2 rfl ?_
      refine v_iload h0 d_Te_readExpressions_13 1 rfl ?_
      refine v_iload_n h0 d_Te_readExpressions_15 5 rfl ?_
      refine v_iload h0 d_Te_readExpressions_16 6 rfl ?_
      refine v_callV h0 hC (sB_N0 g) (17 + c) (show (17 + c) < 59 by omega) (eB_Te g (by omega) _) rfl (av := [.int (nI k1), .int (nI (6 - d)), .int bm]) (rest := []) (hRD (rdM M c a1 e1) c n k1 s e1 a1 bm b hc hk1 (hT.rd a1 e1) hbm) wd_208 wd_205 wd_207 ws_0 wd_3 hd_Te_readExpression (by omega) (by decide) rfl rfl (Nat.le_of_ble_eq_true rfl) d_Te_readExpressions_18 (fun r9 M9 hp9 => ?_)
      obtain ⟨a2, e2, rfl, hq9⟩ := hp9
      rw [rdM_rdM]
      rcases hq9 with ⟨q1, rfl, rfl, q4, q5⟩ | ⟨q1, rfl⟩
      · skip
        refine v_r1 ?_
        refine v_istore h0 d_Te_readExpressions_21 (lv' := [(5, .int (nI (EN s d k1))), (6, .int (nI i)), (0, .ref (ga g (17 + c))), (1, .int (nI k)), (2, .int (nI m)), (3, .int (nI (6 - d))), (4, .int bm)]) (lt_kn hn (by decide)) rfl ?_
        refine v_iinc h0 d_Te_readExpressions_23 (lv' := [(6, .int (nI (i + 1))), (5, .int (nI (EN s d k1))), (0, .ref (ga g (17 + c))), (1, .int (nI k)), (2, .int (nI m)), (3, .int (nI (6 - d))), (4, .int bm)]) 1 rfl (inc1 i) (lt_kn hn (by decide)) rfl ?_
        refine v_goto h0 d_Te_readExpressions_26 rfl ?_
        exact ih (i + 1) (EN s d k1) _ e2 (by omega) (by have := OK_ends s n d b k1 q1; have := hT.2.2.2.2.2; omega) (fun r M' h => hf r M' (RsP_cons q1 q4 q5 h))
      · skip
        refine v_r1 ?_
        refine v_istore h0 d_Te_readExpressions_21 (lv' := [(5, .int (-1)), (6, .int (nI i)), (0, .ref (ga g (17 + c))), (1, .int (nI k)), (2, .int (nI m)), (3, .int (nI (6 - d))), (4, .int bm)]) (lt_kn hn (by decide)) rfl ?_
        refine v_iinc h0 d_Te_readExpressions_23 (lv' := [(6, .int (nI (i + 1))), (5, .int (-1)), (0, .ref (ga g (17 + c))), (1, .int (nI k)), (2, .int (nI m)), (3, .int (nI (6 - d))), (4, .int bm)]) 1 rfl (inc1 i) (lt_kn hn (by decide)) rfl ?_
        refine v_goto h0 d_Te_readExpressions_26 rfl ?_
        exact bad (fun a3 e3 => hf _ _ (RsP_bad q1 a3 e3)) t (i + 1) a2 e2 (by omega)
  refine v_iload_n h0 d_Te_readExpressions_0 1 rfl ?_
  refine v_istore h0 d_Te_readExpressions_1 (lv' := [(5, .int (nI k)), (0, .ref (ga g (17 + c))), (1, .int (nI k)), (2, .int (nI m)), (3, .int (nI (6 - d))), (4, .int bm)]) (lt_kn hn (by decide)) rfl ?_
  refine v_iconst h0 d_Te_readExpressions_3 (v := nI 0) (by decide) ?_
  refine v_istore h0 d_Te_readExpressions_4 (lv' := [(6, .int (nI 0)), (5, .int (nI k)), (0, .ref (ga g (17 + c))), (1, .int (nI k)), (2, .int (nI m)), (3, .int (nI (6 - d))), (4, .int bm)]) (lt_kn hn (by decide)) rfl ?_
  refine v_eq (good m 0 k a e (by omega) hk (fun _ _ h => h)) hT.id
end
section
/-! READING A SIGN AND WHAT BELONGS TO IT (the book) -/
theorem nI_m1 {n : Nat} (h : n < 2 ^ 31) : ¬ nI n = -1 := fun q => by
  have e := nI_toInt h
  rw [q] at e
  have : (-1 : Int32).toInt = -1 := by decide
  omega
theorem lk_no {x : Int32} {d : Int} : ∀ (l : List (Int × Int)), (∀ p ∈ l, x ≠ Int32.ofInt p.1 ∧ (Int32.ofInt p.1).toInt = p.1) → Op.lookupswitch.offset l d x.toInt = d := by
  intro l
  induction l with
  | nil => intro _; rfl
  | cons p l ih =>
    intro h
    obtain ⟨a, q⟩ := p
    rw [Op.lookupswitch.offset_cons, if_neg, ih (fun p hp => h p (List.mem_cons_of_mem _ hp))]
    intro e
    have h1 := h (a, q) List.mem_cons_self
    exact h1.1 (Int32.toInt_inj.mp (e.symm.trans h1.2.symm))
theorem lk_leaf {x : Int32} {d : Int} (hj : kd x = 7 ∨ kd x = 8 ∨ kd x = 9 ∨ kd x = 0) (l : List (Int × Int)) (hl : l.all (fun p => decide (¬ (kd (Int32.ofInt p.1) = 7 ∨ kd (Int32.ofInt p.1) = 8 ∨ kd (Int32.ofInt p.1) = 9 ∨ kd (Int32.ofInt p.1) = 0) ∧ (Int32.ofInt p.1).toInt = p.1)) = true) : Op.lookupswitch.offset l d x.toInt = d := by
  refine lk_no l (fun p hp => ?_)
  have h := of_decide_eq_true (List.all_eq_true.mp hl p hp)
  exact ⟨fun e => h.1 (e ▸ hj), h.2⟩
theorem dec_noc {s : Nat → Int32} {n k j : Nat} (h : ¬ (k < n ∧ kd (s k) = j)) : (decide (k < n) && decide (kd (s k) = j)) = false := by
  by_cases w : k < n
  · have h2 : ¬ kd (s k) = j := fun z => h ⟨w, z⟩
    rw [decide_eq_false h2, Bool.and_false]
  · rw [decide_eq_false w, Bool.false_and]
theorem dec_no {s : Nat → Int32} {n k j : Nat} (h : kdB j (sgA s n k) = false) : (decide (k < n) && decide (kd (s k) = j)) = false := dec_noc (fun w => kdB_f h (by unfold sgA; rw [if_pos w.1]; exact w.2))
theorem EO_upd {s e : Nat → Int32} {n d k k1 : Nat} {b : Nat → Bool} (hok : OK s n d b k1 = true) (h : k < k1) (ho : EO s e d k1) (v : Int32) : EO s (upd e k v) d k1 := EO_same d b k1 hok (fun j hj _ => pk_un (by omega)) ho
theorem sg_2 {s e : Nat → Int32} {n d k c : Nat} {b : Nat → Bool} {M M' : Me} {a : Int32} {r : Option Value} (hk : k < n) (q : kd (s k) = 2) (h : RsP s n d b 2 (k + 1) c M a e r M') : SgP s n d b k c M a e r M' := by
  obtain ⟨a2, e2, rfl, h | h⟩ := h
  · obtain ⟨h1, h2, h3, h4, h5⟩ := h
    simp only [OKs, ENs, NMs, EOs, Bool.and_true, and_true, or0] at h1 h2 h3 h4 h5
    have h1' := h1
    rw [Bool.and_eq_true] at h1
    have hE := OK_ends s n d b _ h1.1
    refine ⟨a2, e2, rfl, Or.inl ?_⟩
    rw [OK_2 s n d b k q, EO_2 _ _ d k q, EN_2 s d k q, NM_2 s d k q]
    exact ⟨by simp [hk, h1.1, h1.2], h2, h3, ⟨pk_us, EO_upd h1.1 (by omega) h4.1 _, EO_upd h1.2 (by omega) h4.2 _⟩, fun j hj => h5 j (by omega)⟩
  · refine ⟨a2, e2, rfl, Or.inr ⟨?_, h.2⟩⟩
    have h1 := h.1
    simp only [OKs, Bool.and_true] at h1
    rw [OK_2 s n d b k q, h1, Bool.and_false]
theorem sg_1 {s e : Nat → Int32} {n d k c : Nat} {b : Nat → Bool} {M M' : Me} {a : Int32} {r : Option Value} (hk : k < n) (q : kd (s k) = 1) (h : RsP s n d b 1 (k + 1) c M a e r M') : SgP s n d b k c M a e r M' := by
  obtain ⟨a2, e2, rfl, h | h⟩ := h
  · obtain ⟨h1, h2, h3, h4, h5⟩ := h
    simp only [OKs, ENs, NMs, EOs, Bool.and_true, and_true, or0] at h1 h2 h3 h4 h5
    refine ⟨a2, e2, rfl, Or.inl ?_⟩
    rw [OK_1 s n d b k q, EO_1 _ _ d k q, EN_1 s d k q, NM_1 s d k q]
    exact ⟨by simp [hk, h1], h2, h3, ⟨pk_us, EO_upd h1 (by omega) h4 _⟩, fun j hj => h5 j (by omega)⟩
  · refine ⟨a2, e2, rfl, Or.inr ⟨?_, h.2⟩⟩
    have h1 := h.1
    simp only [OKs, Bool.and_true] at h1
    rw [OK_1 s n d b k q, h1, Bool.and_false]
theorem sg_3 {s e : Nat → Int32} {n d k c : Nat} {b : Nat → Bool} {M M' : Me} {a : Int32} {r : Option Value} (hk : k < n) (q : kd (s k) = 3) (h : RsP s n d b 3 (k + 1) c M a e r M') : SgP s n d b k c M a e r M' := by
  obtain ⟨a2, e2, rfl, h | h⟩ := h
  · obtain ⟨h1, h2, h3, h4, h5⟩ := h
    simp only [OKs, ENs, NMs, EOs, Bool.and_true, and_true, or0] at h1 h2 h3 h4 h5
    simp only [Bool.and_eq_true] at h1
    have hE := OK_ends s n d b _ h1.1
    have hE2 := OK_ends s n d b _ h1.2.1
    refine ⟨a2, e2, rfl, Or.inl ?_⟩
    rw [OK_3 s n d b k q, EO_3 _ _ d k q, EN_3 s d k q, NM_3 s d k q]
    exact ⟨by simp [hk, h1.1, h1.2.1, h1.2.2], h2, h3, ⟨pk_us, EO_upd h1.1 (by omega) h4.1 _, EO_upd h1.2.1 (by omega) h4.2.1 _, EO_upd h1.2.2 (by omega) h4.2.2 _⟩, fun j hj => h5 j (by omega)⟩
  · refine ⟨a2, e2, rfl, Or.inr ⟨?_, h.2⟩⟩
    have h1 := h.1
    simp only [OKs, Bool.and_true] at h1
    rw [OK_3 s n d b k q, h1, Bool.and_false]
theorem sg_4 {s e e1 e2 : Nat → Int32} {n d k c : Nat} {b : Nat → Bool} {M : Me} {a : Int32} (hk : k < n) (q : kd (s k) = 4) (h1 : k + 1 < n) (h9 : kd (s (k + 1)) = 9) (ok1 : OK s n d b (k + 2) = true) (eo1 : EO s e1 d (k + 2)) (f1 : ∀ j, j < k + 2 ∨ EN s d (k + 2) ≤ j → e1 j = e j)
    (ok2 : OK s n d (bSet b (lcI (s (k + 1)))) (EN s d (k + 2)) = true) (eo2 : EO s e2 d (EN s d (k + 2))) (f2 : ∀ j, j < EN s d (k + 2) ∨ EN s d (EN s d (k + 2)) ≤ j → e2 j = e1 j) : SgP s n d b k c M a e (some (.int (nI (EN s d (EN s d (k + 2)))))) (rdM M c ((a ||| NM s d (k + 2)) ||| NM s d (EN s d (k + 2))) e2) := by
  have hE := OK_ends s n d _ _ ok1
  have hE2 := OK_ends s n d _ _ ok2
  refine ⟨_, e2, rfl, Or.inl ?_⟩
  rw [OK_4 s n d b k q, EO_4 _ _ d k q, EN_4 s d k q, NM_4 s d k q, ora]
  refine ⟨by simp [hk, h1, h9, ok1, ok2], rfl, rfl, ⟨pk_us, EO_upd ok1 (by omega) (EO_same d b _ ok1 (fun j _ w => f2 j (Or.inl w)) eo1) _, EO_upd ok2 (by omega) eo2 _⟩, fun j hj => ?_⟩
  rcases hj with hj | hj
  · rw [f2 j (Or.inl (by omega)), f1 j (Or.inl (by omega))]
  · rw [f2 j (Or.inr hj), f1 j (Or.inr (by omega))]
theorem sg_5 {s e : Nat → Int32} {n d k c : Nat} {b : Nat → Bool} {M M' : Me} {a : Int32} {r : Option Value} (hk : k < n) (q : kd (s k) = 5) (h1 : k + 1 < n) (h8 : kd (s (k + 1)) = 8) (h : RdP s n d b (k + 2) c M (a ||| (1 <<< (nI (nmI (s (k + 1))) &&& 31))) e r M') : SgP s n d b k c M a e r M' := by
  obtain ⟨a2, e2, rfl, h | h⟩ := h
  · obtain ⟨h2, h3, h4, h5, h6⟩ := h
    have hE := OK_ends s n d _ _ h2
    refine ⟨a2, e2, rfl, Or.inl ?_⟩
    rw [OK_5 s n d b k q, EO_5 _ _ d k q, EN_5 s d k q, NM_5 s d k q]
    exact ⟨by simp [hk, h1, h8, h2], h3, by rw [h4, ora], ⟨pk_us, EO_upd h2 (by omega) h5 _⟩, fun j hj => h6 j (by omega)⟩
  · refine ⟨a2, e2, rfl, Or.inr ⟨?_, h.2⟩⟩
    rw [OK_5 s n d b k q, h.1, Bool.and_false, Bool.and_false]
theorem sg_6 {s e e1 e2 e3 : Nat → Int32} {n d k c : Nat} {b : Nat → Bool} {M : Me} {a : Int32} (hk : k < n) (q : kd (s k) = 6) (ok1 : OK s n d b (k + 1) = true) (eo1 : EO s e1 d (k + 1)) (f1 : ∀ j, j < k + 1 ∨ EN s d (k + 1) ≤ j → e1 j = e j) (d1 : EN s d (k + 1) < n) (g1 : kd (s (EN s d (k + 1))) = 7)
    (ok2 : OK s n d b (EN s d (k + 1) + 1) = true) (eo2 : EO s e2 d (EN s d (k + 1) + 1)) (f2 : ∀ j, j < EN s d (k + 1) + 1 ∨ EN s d (EN s d (k + 1) + 1) ≤ j → e2 j = e1 j) (d2 : EN s d (EN s d (k + 1) + 1) < n) (g2 : kd (s (EN s d (EN s d (k + 1) + 1))) = 7)
    (ok3 : OK s n d b (EN s d (EN s d (k + 1) + 1) + 1) = true) (eo3 : EO s e3 d (EN s d (EN s d (k + 1) + 1) + 1)) (f3 : ∀ j, j < EN s d (EN s d (k + 1) + 1) + 1 ∨ EN s d (EN s d (EN s d (k + 1) + 1) + 1) ≤ j → e3 j = e2 j) :
    SgP s n d b k c M a e (some (.int (nI (EN s d (EN s d (EN s d (k + 1) + 1) + 1))))) (rdM M c (((a ||| NM s d (k + 1)) ||| NM s d (EN s d (k + 1) + 1)) ||| NM s d (EN s d (EN s d (k + 1) + 1) + 1)) e3) := by
  have hE := OK_ends s n d _ _ ok1
  have hE2 := OK_ends s n d _ _ ok2
  have hE3 := OK_ends s n d _ _ ok3
  refine ⟨_, e3, rfl, Or.inl ?_⟩
  rw [OK_6 s n d b k q, EO_6 _ _ d k q, EN_6 s d k q, NM_6 s d k q, ora, ora]
  have eo2' : EO s e3 d (EN s d (k + 1) + 1) := EO_same d b _ ok2 (fun j _ w => f3 j (Or.inl (by omega))) eo2
  have eo1' : EO s e3 d (k + 1) := EO_same d b _ ok1 (fun j _ w => by rw [f3 j (Or.inl (by omega)), f2 j (Or.inl (by omega))]) eo1
  refine ⟨by simp [hk, ok1, d1, g1, ok2, d2, g2, ok3], rfl, rfl, ⟨pk_us, EO_upd ok1 (by omega) eo1' _, EO_upd ok2 (by omega) eo2' _, EO_upd ok3 (by omega) eo3 _⟩, fun j hj => ?_⟩
  rcases hj with hj | hj
  · rw [f3 j (Or.inl (by omega)), f2 j (Or.inl (by omega)), f1 j (Or.inl (by omega))]
  · rw [f3 j (Or.inr hj), f2 j (Or.inr (by omega)), f1 j (Or.inr (by omega))]
theorem sg_no {s e : Nat → Int32} {n d k c : Nat} {b : Nat → Bool} {M : Me} {a : Int32} (h : OK s n (d + 1) b k = false) (a1 : Int32) (e1 : Nat → Int32) : SgP s n d b k c M a e (some (.int (-1))) (rdM M c a1 e1) := ⟨a1, e1, rfl, Or.inr ⟨h, rfl⟩⟩
theorem m_Te_sign (l : Launch) (g : Gd) (hI : sI (sB g)) (M : Me) {c n k : Nat} {s e : Nat → Int32} {a : Int32} (hc : c < 10) (hk : k < 1000) (hT : TX M c s n a e) : CB l g y_Te_signAt c_Te_signAt 2 (some .char) 1 [.ref (ga g (17 + c)), .int (nI k)] M (fun r M' => r = some (.int (sgA s n k)) ∧ M = M') := by
  obtain ⟨rfl, hl, rfl, rfl, hch, hn24⟩ := hT
  exact m_Te_signAt l g hI M hc hn24 hk hl hch
set_option maxHeartbeats 4000000 in
theorem m_Te_readBinding (l : Launch) (g : Gd) (hI : sI (sB g)) (M : Me) {c n k d : Nat} {s e : Nat → Int32} {a bm : Int32} {b : Nat → Bool} (hc : c < 10) (hk : k < n) (hd : d ≤ 6) (hT : TX M c s n a e) (hbm : BM bm b) (hRD : RD l g d) (hq : kd (s k) = 4) : CB l g y_Te_readBinding c_Te_readBinding 6 (some .int) (3 * d + 6) [.ref (ga g (17 + c)), .int (nI k), .int (nI (6 - d)), .int bm] M (SgP s n d b k c M a e) := by
  have hn24 : n ≤ 24 := hT.2.2.2.2.2
  refine Ct.of hI (sB_N0 g) rfl (Nat.le_of_ble_eq_true rfl) (fun K h0 hC hR hkl hn => ?_)
  have hC : Cx (sB g) K gC_Te _ := hC
  show V K (wp (sB g)) M 0 [(0, .ref (ga g (17 + c))), (1, .int (nI k)), (2, .int (nI (6 - d))), (3, .int bm)] []
  subst hkl
  refine v_aload_n h0 d_Te_readBinding_0 0 rfl ?_
  refine v_iload_n h0 d_Te_readBinding_1 1 rfl ?_
  refine v_iconst h0 d_Te_readBinding_2 (v := nI 1) (by decide) ?_
  refine v_iadd h0 d_Te_readBinding_3 ?_
  refine v_int (nI (k + 1)) (nI_add k 1) ?_
  refine v_callV h0 hC (sB_N0 g) (17 + c) (show (17 + c) < 59 by omega) (eB_Te g (by omega) _) rfl (av := [.int (nI (k + 1))]) (rest := []) (m_Te_sign (kl K) g hI M hc (by have := hT.2.2.2.2.2; omega) hT) wd_197 wd_194 wd_195 wd_196 wd_3 hd_Te_signAt (by omega) (by decide) rfl rfl (Nat.le_of_ble_eq_true rfl) d_Te_readBinding_4 (fun r9 M9 hp9 => ?_)
  obtain ⟨rfl, rfl⟩ := hp9
  refine v_r1 ?_
  refine v_istore h0 d_Te_readBinding_7 (lv' := [(4, .int (sgA s n (k + 1))), (0, .ref (ga g (17 + c))), (1, .int (nI k)), (2, .int (nI (6 - d))), (3, .int bm)]) (lt_kn hn (by decide)) rfl ?_
  refine v_iload h0 d_Te_readBinding_9 0 rfl ?_
  refine v_callSN h0 hC (sB_N0 g) (av := [.int (sgA s n (k + 1))]) (rest := []) (m_B_isLocal (kl K) g hI M _) wd_200 wn_23 wd_199 wd_1 hd_B_isLocal (by omega) (by decide) rfl rfl (Nat.le_of_ble_eq_true rfl) d_Te_readBinding_11 (fun r9 M9 hp9 => ?_)
  obtain ⟨rfl, rfl⟩ := hp9
  refine v_r1 ?_
  refine b_if_ne h0 d_Te_readBinding_14 rfl (fun h14 => ?_) (fun h14 => ?_)
  · skip
    obtain ⟨h1n, hse⟩ := kd_sg (by decide) (kdB_t h14)
    have h9 := kdB_t h14
    rw [hse] at h9
    have hl6 := lc_of h9
    refine v_aload_n h0 d_Te_readBinding_19 1 rfl ?_
    refine v_iload_n h0 d_Te_readBinding_20 2 rfl ?_
    refine v_iconst h0 d_Te_readBinding_21 (v := nI 2) (by decide) ?_
    refine v_iadd h0 d_Te_readBinding_22 ?_
    refine v_int (nI (k + 2)) (nI_add k 2) ?_
    refine v_iload_n h0 d_Te_readBinding_23 3 rfl ?_
    refine v_iload_n h0 d_Te_readBinding_24 4 rfl ?_
    refine v_callV h0 hC (sB_N0 g) (17 + c) (show (17 + c) < 59 by omega) (eB_Te g (by omega) _) rfl (av := [.int (nI (k + 2)), .int (nI (6 - d)), .int bm]) (rest := []) (hRD M c n (k + 2) s e a bm b hc (by have := hT.2.2.2.2.2; omega) hT hbm) wd_208 wd_205 wd_207 ws_0 wd_3 hd_Te_readExpression (by omega) (by decide) rfl rfl (Nat.le_of_ble_eq_true rfl) d_Te_readBinding_25 (fun r9 M9 hp9 => ?_)
    obtain ⟨a1, e1, rfl, hq9⟩ := hp9
    rcases hq9 with ⟨q1, rfl, rfl, q4, q5⟩ | ⟨q1, rfl⟩
    · skip
      refine v_r1 ?_
      refine v_istore h0 d_Te_readBinding_28 (lv' := [(5, .int (nI (EN s d (k + 2)))), (4, .int (sgA s n (k + 1))), (0, .ref (ga g (17 + c))), (1, .int (nI k)), (2, .int (nI (6 - d))), (3, .int bm)]) (lt_kn hn (by decide)) rfl ?_
      refine v_aload_n h0 d_Te_readBinding_30 2 rfl ?_
      refine v_iload h0 d_Te_readBinding_31 0 rfl ?_
      refine v_iload_n h0 d_Te_readBinding_33 4 rfl ?_
      refine v_iload_n h0 d_Te_readBinding_34 5 rfl ?_
      refine v_iconst h0 d_Te_readBinding_35 (v := nI 1) (by decide) ?_
      refine v_iload h0 d_Te_readBinding_36 1 rfl ?_
      refine v_bipush h0 d_Te_readBinding_38 (v := nI 107) (by decide) ?_
      refine v_isub h0 d_Te_readBinding_40 ?_
      refine v_int (sgA s n (k + 1) - nI 107) (rfl) ?_
      refine v_int (s (k + 1) - nI 107) (by rw [hse]) ?_
      refine v_int (nI (lcI (s (k + 1)))) (hl6.2) ?_
      refine v_ishl h0 d_Te_readBinding_41 ?_
      refine v_ior h0 d_Te_readBinding_42 ?_
      refine v_callV h0 hC (sB_N0 g) (17 + c) (show (17 + c) < 59 by omega) (eB_Te g (by omega) _) rfl (av := [.int (nI (EN s d (k + 2))), .int (nI (6 - d)), .int (bm ||| ((nI 1) <<< ((nI (lcI (s (k + 1)))) &&& 31)))]) (rest := []) (hRD (rdM M c (a ||| NM s d (k + 2)) e1) c n (EN s d (k + 2)) s e1 _ _ _ hc (by have := OK_ends s n d b _ q1; have := hT.2.2.2.2.2; omega) (hT.rd _ _) (hbm.set hl6.1)) wd_208 wd_205 wd_207 ws_0 wd_3 hd_Te_readExpression (by omega) (by decide) rfl rfl (Nat.le_of_ble_eq_true rfl) d_Te_readBinding_43 (fun r9 M9 hp9 => ?_)
      obtain ⟨a2, e2, rfl, hq9⟩ := hp9
      rw [rdM_rdM]
      rcases hq9 with ⟨w1, rfl, rfl, w4, w5⟩ | ⟨w1, rfl⟩
      · skip
        refine v_r1 ?_
        exact v_iret h0 hC hR d_Te_readBinding_46 (sg_4 hk hq h1n h9 q1 q4 q5 w1 w4 w5)
      · skip
        refine v_r1 ?_
        exact v_iret h0 hC hR d_Te_readBinding_46 (sg_no (by rw [OK_4 s n d b k hq, w1]; simp) _ _)
    · skip
      refine v_r1 ?_
      refine v_istore h0 d_Te_readBinding_28 (lv' := [(5, .int (-1)), (4, .int (sgA s n (k + 1))), (0, .ref (ga g (17 + c))), (1, .int (nI k)), (2, .int (nI (6 - d))), (3, .int bm)]) (lt_kn hn (by decide)) rfl ?_
      refine v_aload_n h0 d_Te_readBinding_30 2 rfl ?_
      refine v_iload h0 d_Te_readBinding_31 0 rfl ?_
      refine v_iload_n h0 d_Te_readBinding_33 4 rfl ?_
      refine v_iload_n h0 d_Te_readBinding_34 5 rfl ?_
      refine v_iconst h0 d_Te_readBinding_35 (v := nI 1) (by decide) ?_
      refine v_iload h0 d_Te_readBinding_36 1 rfl ?_
      refine v_bipush h0 d_Te_readBinding_38 (v := nI 107) (by decide) ?_
      refine v_isub h0 d_Te_readBinding_40 ?_
      refine v_int (sgA s n (k + 1) - nI 107) (rfl) ?_
      refine v_int (s (k + 1) - nI 107) (by rw [hse]) ?_
      refine v_int (nI (lcI (s (k + 1)))) (hl6.2) ?_
      refine v_ishl h0 d_Te_readBinding_41 ?_
      refine v_ior h0 d_Te_readBinding_42 ?_
      refine v_callV h0 hC (sB_N0 g) (17 + c) (show (17 + c) < 59 by omega) (eB_Te g (by omega) _) rfl (av := [.int (-1), .int (nI (6 - d)), .int (bm ||| ((nI 1) <<< ((nI (lcI (s (k + 1)))) &&& 31)))]) (rest := []) (m_Te_readExpression_m (kl K) g hI (rdM M c a1 e1) hc _ _) wd_208 wd_205 wd_207 ws_0 wd_3 hd_Te_readExpression (by omega) (by decide) rfl rfl (Nat.le_of_ble_eq_true rfl) d_Te_readBinding_43 (fun r9 M9 hp9 => ?_)
      obtain ⟨rfl, rfl⟩ := hp9
      refine v_r1 ?_
      exact v_iret h0 hC hR d_Te_readBinding_46 (sg_no (by rw [OK_4 s n d b k hq, q1]; simp) _ _)
  · skip
    refine v_iconst h0 d_Te_readBinding_17 (v := -1) (by decide) ?_
    exact v_iret h0 hC hR d_Te_readBinding_18 (leaf_no hT (by rw [OK_4 s n d b k hq, dec_no h14]; simp))
set_option maxHeartbeats 4000000 in
theorem m_Te_readMatch (l : Launch) (g : Gd) (hI : sI (sB g)) (M : Me) {c n k d : Nat} {s e : Nat → Int32} {a bm : Int32} {b : Nat → Bool} (hc : c < 10) (hk : k < n) (hd : d ≤ 6) (hT : TX M c s n a e) (hbm : BM bm b) (hRD : RD l g d) (hq : kd (s k) = 6) : CB l g y_Te_readMatch c_Te_readMatch 6 (some .int) (3 * d + 6) [.ref (ga g (17 + c)), .int (nI k), .int (nI (6 - d)), .int bm] M (SgP s n d b k c M a e) := by
  have hn24 : n ≤ 24 := hT.2.2.2.2.2
  refine Ct.of hI (sB_N0 g) rfl (Nat.le_of_ble_eq_true rfl) (fun K h0 hC hR hkl hn => ?_)
  have hC : Cx (sB g) K gC_Te _ := hC
  show V K (wp (sB g)) M 0 [(0, .ref (ga g (17 + c))), (1, .int (nI k)), (2, .int (nI (6 - d))), (3, .int bm)] []
  subst hkl
  refine v_aload_n h0 d_Te_readMatch_0 0 rfl ?_
  refine v_iload_n h0 d_Te_readMatch_1 1 rfl ?_
  refine v_iconst h0 d_Te_readMatch_2 (v := nI 1) (by decide) ?_
  refine v_iadd h0 d_Te_readMatch_3 ?_
  refine v_int (nI (k + 1)) (nI_add k 1) ?_
  refine v_iload_n h0 d_Te_readMatch_4 2 rfl ?_
  refine v_iload_n h0 d_Te_readMatch_5 3 rfl ?_
  refine v_callV h0 hC (sB_N0 g) (17 + c) (show (17 + c) < 59 by omega) (eB_Te g (by omega) _) rfl (av := [.int (nI (k + 1)), .int (nI (6 - d)), .int bm]) (rest := []) (hRD M c n (k + 1) s e a bm b hc (by omega) hT hbm) wd_208 wd_205 wd_207 ws_0 wd_3 hd_Te_readExpression (by omega) (by decide) rfl rfl (Nat.le_of_ble_eq_true rfl) d_Te_readMatch_6 (fun r9 M9 hp9 => ?_)
  obtain ⟨a1, e1, rfl, hq9⟩ := hp9
  rcases hq9 with ⟨q1, rfl, rfl, q4, q5⟩ | ⟨q1, rfl⟩
  · skip
    refine v_r1 ?_
    refine v_istore h0 d_Te_readMatch_9 (lv' := [(4, .int (nI (EN s d (k + 1)))), (0, .ref (ga g (17 + c))), (1, .int (nI k)), (2, .int (nI (6 - d))), (3, .int bm)]) (lt_kn hn (by decide)) rfl ?_
    refine v_iconst h0 d_Te_readMatch_11 (v := nI 0) (by decide) ?_
    refine v_istore h0 d_Te_readMatch_12 (lv' := [(5, .int (nI 0)), (4, .int (nI (EN s d (k + 1)))), (0, .ref (ga g (17 + c))), (1, .int (nI k)), (2, .int (nI (6 - d))), (3, .int bm)]) (lt_kn hn (by decide)) rfl ?_
    refine v_iload h0 d_Te_readMatch_14 0 rfl ?_
    refine v_iconst h0 d_Te_readMatch_16 (v := nI 2) (by decide) ?_
    refine n_icmp_ge h0 (by omega) (by omega) d_Te_readMatch_17 rfl (fun h17 => absurd h17 (by omega)) (fun h17 => ?_)
    refine v_aload_n h0 d_Te_readMatch_20 2 rfl ?_
    refine v_iload h0 d_Te_readMatch_21 1 rfl ?_
    refine v_callV h0 hC (sB_N0 g) (17 + c) (show (17 + c) < 59 by omega) (eB_Te g (by omega) _) rfl (av := [.int (nI (EN s d (k + 1)))]) (rest := []) (m_Te_sign (kl K) g hI (rdM M c (a ||| NM s d (k + 1)) e1) hc (by have := OK_ends s n d b _ q1; omega) (hT.rd _ _)) wd_197 wd_194 wd_195 wd_196 wd_3 hd_Te_signAt (by omega) (by decide) rfl rfl (Nat.le_of_ble_eq_true rfl) d_Te_readMatch_23 (fun r9 M9 hp9 => ?_)
    obtain ⟨rfl, rfl⟩ := hp9
    refine v_r1 ?_
    refine v_callSN h0 hC (sB_N0 g) (av := [.int (sgA s n (EN s d (k + 1)))]) (rest := []) (m_B_isDigit (kl K) g hI _ _) wd_234 wn_25 wd_233 wd_1 hd_B_isDigit (by omega) (by decide) rfl rfl (Nat.le_of_ble_eq_true rfl) d_Te_readMatch_26 (fun r9 M9 hp9 => ?_)
    obtain ⟨rfl, rfl⟩ := hp9
    refine v_r1 ?_
    refine b_if_ne h0 d_Te_readMatch_29 rfl (fun h29 => ?_) (fun h29 => ?_)
    · skip
      obtain ⟨z1n, z1e⟩ := kd_sg (by decide) (kdB_t h29)
      have z17 : kd (s (EN s d (k + 1))) = 7 := by rw [← z1e]; exact kdB_t h29
      refine v_aload_n h0 d_Te_readMatch_34 2 rfl ?_
      refine v_iload h0 d_Te_readMatch_35 1 rfl ?_
      refine v_iconst h0 d_Te_readMatch_37 (v := nI 1) (by decide) ?_
      refine v_iadd h0 d_Te_readMatch_38 ?_
      refine v_int (nI (EN s d (k + 1) + 1)) (nI_add (EN s d (k + 1)) 1) ?_
      refine v_iload_n h0 d_Te_readMatch_39 4 rfl ?_
      refine v_iload_n h0 d_Te_readMatch_40 5 rfl ?_
      refine v_callV h0 hC (sB_N0 g) (17 + c) (show (17 + c) < 59 by omega) (eB_Te g (by omega) _) rfl (av := [.int (nI (EN s d (k + 1) + 1)), .int (nI (6 - d)), .int bm]) (rest := []) (hRD (rdM M c (a ||| NM s d (k + 1)) e1) c n (EN s d (k + 1) + 1) s e1 _ bm b hc (by omega) (hT.rd _ _) hbm) wd_208 wd_205 wd_207 ws_0 wd_3 hd_Te_readExpression (by omega) (by decide) rfl rfl (Nat.le_of_ble_eq_true rfl) d_Te_readMatch_41 (fun r9 M9 hp9 => ?_)
      obtain ⟨a2, e2, rfl, hq9⟩ := hp9
      rw [rdM_rdM]
      rcases hq9 with ⟨w1, rfl, rfl, w4, w5⟩ | ⟨w1, rfl⟩
      · skip
        refine v_r1 ?_
        refine v_istore h0 d_Te_readMatch_44 (lv' := [(4, .int (nI (EN s d (EN s d (k + 1) + 1)))), (5, .int (nI 0)), (0, .ref (ga g (17 + c))), (1, .int (nI k)), (2, .int (nI (6 - d))), (3, .int bm)]) (lt_kn hn (by decide)) rfl ?_
        refine v_iinc h0 d_Te_readMatch_46 (lv' := [(5, .int (nI (0 + 1))), (4, .int (nI (EN s d (EN s d (k + 1) + 1)))), (0, .ref (ga g (17 + c))), (1, .int (nI k)), (2, .int (nI (6 - d))), (3, .int bm)]) 1 rfl (inc1 0) (lt_kn hn (by decide)) rfl ?_
        refine v_goto h0 d_Te_readMatch_49 rfl ?_
        refine v_iload h0 d_Te_readMatch_14 0 rfl ?_
        refine v_iconst h0 d_Te_readMatch_16 (v := nI 2) (by decide) ?_
        refine n_icmp_ge h0 (by omega) (by omega) d_Te_readMatch_17 rfl (fun h17 => absurd h17 (by omega)) (fun h17 => ?_)
        refine v_aload_n h0 d_Te_readMatch_20 2 rfl ?_
        refine v_iload h0 d_Te_readMatch_21 1 rfl ?_
        refine v_callV h0 hC (sB_N0 g) (17 + c) (show (17 + c) < 59 by omega) (eB_Te g (by omega) _) rfl (av := [.int (nI (EN s d (EN s d (k + 1) + 1)))]) (rest := []) (m_Te_sign (kl K) g hI (rdM M c ((a ||| NM s d (k + 1)) ||| NM s d (EN s d (k + 1) + 1)) e2) hc (by have := OK_ends s n d b _ w1; omega) (hT.rd _ _)) wd_197 wd_194 wd_195 wd_196 wd_3 hd_Te_signAt (by omega) (by decide) rfl rfl (Nat.le_of_ble_eq_true rfl) d_Te_readMatch_23 (fun r9 M9 hp9 => ?_)
        obtain ⟨rfl, rfl⟩ := hp9
        refine v_r1 ?_
        refine v_callSN h0 hC (sB_N0 g) (av := [.int (sgA s n (EN s d (EN s d (k + 1) + 1)))]) (rest := []) (m_B_isDigit (kl K) g hI _ _) wd_234 wn_25 wd_233 wd_1 hd_B_isDigit (by omega) (by decide) rfl rfl (Nat.le_of_ble_eq_true rfl) d_Te_readMatch_26 (fun r9 M9 hp9 => ?_)
        obtain ⟨rfl, rfl⟩ := hp9
        refine v_r1 ?_
        refine b_if_ne h0 d_Te_readMatch_29 rfl (fun h29 => ?_) (fun h29 => ?_)
        · skip
          obtain ⟨z2n, z2e⟩ := kd_sg (by decide) (kdB_t h29)
          have z27 : kd (s (EN s d (EN s d (k + 1) + 1))) = 7 := by rw [← z2e]; exact kdB_t h29
          refine v_aload_n h0 d_Te_readMatch_34 2 rfl ?_
          refine v_iload h0 d_Te_readMatch_35 1 rfl ?_
          refine v_iconst h0 d_Te_readMatch_37 (v := nI 1) (by decide) ?_
          refine v_iadd h0 d_Te_readMatch_38 ?_
          refine v_int (nI (EN s d (EN s d (k + 1) + 1) + 1)) (nI_add (EN s d (EN s d (k + 1) + 1)) 1) ?_
          refine v_iload_n h0 d_Te_readMatch_39 4 rfl ?_
          refine v_iload_n h0 d_Te_readMatch_40 5 rfl ?_
          refine v_callV h0 hC (sB_N0 g) (17 + c) (show (17 + c) < 59 by omega) (eB_Te g (by omega) _) rfl (av := [.int (nI (EN s d (EN s d (k + 1) + 1) + 1)), .int (nI (6 - d)), .int bm]) (rest := []) (hRD (rdM M c ((a ||| NM s d (k + 1)) ||| NM s d (EN s d (k + 1) + 1)) e2) c n (EN s d (EN s d (k + 1) + 1) + 1) s e2 _ bm b hc (by omega) (hT.rd _ _) hbm) wd_208 wd_205 wd_207 ws_0 wd_3 hd_Te_readExpression (by omega) (by decide) rfl rfl (Nat.le_of_ble_eq_true rfl) d_Te_readMatch_41 (fun r9 M9 hp9 => ?_)
          obtain ⟨a3, e3, rfl, hq9⟩ := hp9
          rw [rdM_rdM]
          rcases hq9 with ⟨x1, rfl, rfl, x4, x5⟩ | ⟨x1, rfl⟩
          · skip
            refine v_r1 ?_
            refine v_istore h0 d_Te_readMatch_44 (lv' := [(4, .int (nI (EN s d (EN s d (EN s d (k + 1) + 1) + 1)))), (5, .int (nI (0 + 1))), (0, .ref (ga g (17 + c))), (1, .int (nI k)), (2, .int (nI (6 - d))), (3, .int bm)]) (lt_kn hn (by decide)) rfl ?_
            refine v_iinc h0 d_Te_readMatch_46 (lv' := [(5, .int (nI (0 + 1 + 1))), (4, .int (nI (EN s d (EN s d (EN s d (k + 1) + 1) + 1)))), (0, .ref (ga g (17 + c))), (1, .int (nI k)), (2, .int (nI (6 - d))), (3, .int bm)]) 1 rfl (inc1 (0 + 1)) (lt_kn hn (by decide)) rfl ?_
            refine v_goto h0 d_Te_readMatch_49 rfl ?_
            refine v_iload h0 d_Te_readMatch_14 0 rfl ?_
            refine v_iconst h0 d_Te_readMatch_16 (v := nI 2) (by decide) ?_
            refine n_icmp_ge h0 (by omega) (by omega) d_Te_readMatch_17 rfl (fun h17 => ?_) (fun h17 => absurd h17 (by omega))
            refine v_iload h0 d_Te_readMatch_52 1 rfl ?_
            exact v_iret h0 hC hR d_Te_readMatch_54 (sg_6 hk hq q1 q4 q5 z1n z17 w1 w4 w5 z2n z27 x1 x4 x5)
          · skip
            refine v_r1 ?_
            refine v_istore h0 d_Te_readMatch_44 (lv' := [(4, .int (-1)), (5, .int (nI (0 + 1))), (0, .ref (ga g (17 + c))), (1, .int (nI k)), (2, .int (nI (6 - d))), (3, .int bm)]) (lt_kn hn (by decide)) rfl ?_
            refine v_iinc h0 d_Te_readMatch_46 (lv' := [(5, .int (nI (0 + 1 + 1))), (4, .int (-1)), (0, .ref (ga g (17 + c))), (1, .int (nI k)), (2, .int (nI (6 - d))), (3, .int bm)]) 1 rfl (inc1 (0 + 1)) (lt_kn hn (by decide)) rfl ?_
            refine v_goto h0 d_Te_readMatch_49 rfl ?_
            refine v_iload h0 d_Te_readMatch_14 0 rfl ?_
            refine v_iconst h0 d_Te_readMatch_16 (v := nI 2) (by decide) ?_
            refine n_icmp_ge h0 (by omega) (by omega) d_Te_readMatch_17 rfl (fun h17 => ?_) (fun h17 => absurd h17 (by omega))
            refine v_iload h0 d_Te_readMatch_52 1 rfl ?_
            exact v_iret h0 hC hR d_Te_readMatch_54 (sg_no (by rw [OK_6 s n d b k hq, x1]; simp) _ _)
        · skip
          have z2x : (decide (EN s d (EN s d (k + 1) + 1) < n) && decide (kd (s (EN s d (EN s d (k + 1) + 1))) = 7)) = false := dec_no h29
          refine v_iconst h0 d_Te_readMatch_32 (v := -1) (by decide) ?_
          exact v_iret h0 hC hR d_Te_readMatch_33 (sg_no (by rw [OK_6 s n d b k hq, z2x]; simp) _ _)
      · skip
        refine v_r1 ?_
        refine v_istore h0 d_Te_readMatch_44 (lv' := [(4, .int (-1)), (5, .int (nI 0)), (0, .ref (ga g (17 + c))), (1, .int (nI k)), (2, .int (nI (6 - d))), (3, .int bm)]) (lt_kn hn (by decide)) rfl ?_
        refine v_iinc h0 d_Te_readMatch_46 (lv' := [(5, .int (nI (0 + 1))), (4, .int (-1)), (0, .ref (ga g (17 + c))), (1, .int (nI k)), (2, .int (nI (6 - d))), (3, .int bm)]) 1 rfl (inc1 0) (lt_kn hn (by decide)) rfl ?_
        refine v_goto h0 d_Te_readMatch_49 rfl ?_
        refine v_iload h0 d_Te_readMatch_14 0 rfl ?_
        refine v_iconst h0 d_Te_readMatch_16 (v := nI 2) (by decide) ?_
        refine n_icmp_ge h0 (by omega) (by omega) d_Te_readMatch_17 rfl (fun h17 => absurd h17 (by omega)) (fun h17 => ?_)
        refine v_aload_n h0 d_Te_readMatch_20 2 rfl ?_
        refine v_iload h0 d_Te_readMatch_21 1 rfl ?_
        refine v_callV h0 hC (sB_N0 g) (17 + c) (show (17 + c) < 59 by omega) (eB_Te g (by omega) _) rfl (av := [.int (-1)]) (rest := []) (m_Te_signAt_m (kl K) g hI _ hc) wd_197 wd_194 wd_195 wd_196 wd_3 hd_Te_signAt (by omega) (by decide) rfl rfl (Nat.le_of_ble_eq_true rfl) d_Te_readMatch_23 (fun r9 M9 hp9 => ?_)
        obtain ⟨rfl, rfl⟩ := hp9
        refine v_r1 ?_
        refine v_callSN h0 hC (sB_N0 g) (av := [.int 0]) (rest := []) (m_B_isDigit (kl K) g hI _ _) wd_234 wn_25 wd_233 wd_1 hd_B_isDigit (by omega) (by decide) rfl rfl (Nat.le_of_ble_eq_true rfl) d_Te_readMatch_26 (fun r9 M9 hp9 => ?_)
        obtain ⟨rfl, rfl⟩ := hp9
        refine v_r1 ?_
        refine b_if_ne h0 d_Te_readMatch_29 rfl (fun h29 => absurd h29 (by decide)) (fun h29 => ?_)
        refine v_iconst h0 d_Te_readMatch_32 (v := -1) (by decide) ?_
        exact v_iret h0 hC hR d_Te_readMatch_33 (sg_no (by rw [OK_6 s n d b k hq, w1]; simp) _ _)
    · skip
      have z1x : (decide (EN s d (k + 1) < n) && decide (kd (s (EN s d (k + 1))) = 7)) = false := dec_no h29
      refine v_iconst h0 d_Te_readMatch_32 (v := -1) (by decide) ?_
      exact v_iret h0 hC hR d_Te_readMatch_33 (sg_no (by rw [OK_6 s n d b k hq, z1x]; simp) _ _)
  · skip
    refine v_r1 ?_
    refine v_istore h0 d_Te_readMatch_9 (lv' := [(4, .int (-1)), (0, .ref (ga g (17 + c))), (1, .int (nI k)), (2, .int (nI (6 - d))), (3, .int bm)]) (lt_kn hn (by decide)) rfl ?_
    refine v_iconst h0 d_Te_readMatch_11 (v := nI 0) (by decide) ?_
    refine v_istore h0 d_Te_readMatch_12 (lv' := [(5, .int (nI 0)), (4, .int (-1)), (0, .ref (ga g (17 + c))), (1, .int (nI k)), (2, .int (nI (6 - d))), (3, .int bm)]) (lt_kn hn (by decide)) rfl ?_
    refine v_iload h0 d_Te_readMatch_14 0 rfl ?_
    refine v_iconst h0 d_Te_readMatch_16 (v := nI 2) (by decide) ?_
    refine n_icmp_ge h0 (by omega) (by omega) d_Te_readMatch_17 rfl (fun h17 => absurd h17 (by omega)) (fun h17 => ?_)
    refine v_aload_n h0 d_Te_readMatch_20 2 rfl ?_
    refine v_iload h0 d_Te_readMatch_21 1 rfl ?_
    refine v_callV h0 hC (sB_N0 g) (17 + c) (show (17 + c) < 59 by omega) (eB_Te g (by omega) _) rfl (av := [.int (-1)]) (rest := []) (m_Te_signAt_m (kl K) g hI _ hc) wd_197 wd_194 wd_195 wd_196 wd_3 hd_Te_signAt (by omega) (by decide) rfl rfl (Nat.le_of_ble_eq_true rfl) d_Te_readMatch_23 (fun r9 M9 hp9 => ?_)
    obtain ⟨rfl, rfl⟩ := hp9
    refine v_r1 ?_
    refine v_callSN h0 hC (sB_N0 g) (av := [.int 0]) (rest := []) (m_B_isDigit (kl K) g hI _ _) wd_234 wn_25 wd_233 wd_1 hd_B_isDigit (by omega) (by decide) rfl rfl (Nat.le_of_ble_eq_true rfl) d_Te_readMatch_26 (fun r9 M9 hp9 => ?_)
    obtain ⟨rfl, rfl⟩ := hp9
    refine v_r1 ?_
    refine b_if_ne h0 d_Te_readMatch_29 rfl (fun h29 => absurd h29 (by decide)) (fun h29 => ?_)
    refine v_iconst h0 d_Te_readMatch_32 (v := -1) (by decide) ?_
    exact v_iret h0 hC hR d_Te_readMatch_33 (sg_no (by rw [OK_6 s n d b k hq, q1]; simp) _ _)
theorem RdP_re {s e : Nat → Int32} {n d k c : Nat} {b : Nat → Bool} {M M' : Me} {a a0 : Int32} {e0 : Nat → Int32} {r : Option Value} (h : RdP s n d b k c (rdM M c a0 e0) a e r M') : RdP s n d b k c M a e r M' := by
  obtain ⟨a2, e2, rfl, h⟩ := h
  exact ⟨a2, e2, rdM_rdM _ _ _ _ _ _, h⟩
set_option maxHeartbeats 4000000 in
theorem m_Te_readSign (l : Launch) (g : Gd) (hI : sI (sB g)) (M : Me) {c n k d : Nat} {s e : Nat → Int32} {a bm : Int32} {b : Nat → Bool} (hc : c < 10) (hk : k < n) (hd : d ≤ 6) (hT : TX M c s n a e) (hbm : BM bm b) (hRD : RD l g d) : CB l g y_Te_readSign c_Te_readSign 4 (some .int) (3 * d + 7) [.ref (ga g (17 + c)), .int (nI k), .int (nI (6 - d)), .int bm] M (SgP s n d b k c M a e) := by
  have hn24 : n ≤ 24 := hT.2.2.2.2.2
  refine Ct.of hI (sB_N0 g) rfl (Nat.le_of_ble_eq_true rfl) (fun K h0 hC hR hkl hn => ?_)
  have hC : Cx (sB g) K gC_Te _ := hC
  show V K (wp (sB g)) M 0 [(0, .ref (ga g (17 + c))), (1, .int (nI k)), (2, .int (nI (6 - d))), (3, .int bm)] []
  subst hkl
  obtain ⟨hs, hl, ha, he, hch, hn24⟩ := id hT
  refine v_aload_n h0 d_Te_readSign_0 0 rfl ?_
  refine g_Te_signs h0 hC (by omega) wd_31 d_Te_readSign_1 ?_
  refine v_iload_n h0 d_Te_readSign_4 1 rfl ?_
  refine a_B_signs h0 hC (by omega) k (rfl) (by omega) d_Te_readSign_5 ?_
  refine v_int (s k) (by rw [hs]) ?_
  rcases kd_cases (s k) with q | q | q | q | q | q | q | q | q | q
  · skip
    rcases (kd_2 _).mp q with h | h | h | h | h | h | h
    · skip
      refine v_lookup h0 d_Te_readSign_6 (by decide) (off := 106) (by rw [h]; decide) rfl ?_
      refine v_aload_n h0 d_Te_readSign_112 0 rfl ?_
      refine v_iload_n h0 d_Te_readSign_113 1 rfl ?_
      refine v_iconst h0 d_Te_readSign_114 (v := nI 1) (by decide) ?_
      refine v_iadd h0 d_Te_readSign_115 ?_
      refine v_int (nI (k + 1)) (nI_add k 1) ?_
      refine v_iconst h0 d_Te_readSign_116 (v := nI 2) (by decide) ?_
      refine v_iload_n h0 d_Te_readSign_117 2 rfl ?_
      refine v_iload_n h0 d_Te_readSign_118 3 rfl ?_
      refine v_callV h0 hC (sB_N0 g) (17 + c) (show (17 + c) < 59 by omega) (eB_Te g (by omega) _) rfl (av := [.int (nI (k + 1)), .int (nI 2), .int (nI (6 - d)), .int bm]) (rest := []) (m_Te_readExpressions (kl K) g hI M hc (by omega) hd (by decide) hT hbm hRD) wd_216 wd_213 wd_215 ws_2 wd_3 hd_Te_readExpressions (by omega) (by decide) rfl rfl (Nat.le_of_ble_eq_true rfl) d_Te_readSign_119 (fun r9 M9 hp9 => ?_)
      obtain ⟨v, rfl⟩ : ∃ v, r9 = some (.int v) := by obtain ⟨_, _, _, h | h⟩ := hp9; exact ⟨_, h.2.1⟩; exact ⟨_, h.2⟩
      refine v_r1 ?_
      exact v_iret h0 hC hR d_Te_readSign_122 (sg_2 hk q hp9)
    · skip
      refine v_lookup h0 d_Te_readSign_6 (by decide) (off := 106) (by rw [h]; decide) rfl ?_
      refine v_aload_n h0 d_Te_readSign_112 0 rfl ?_
      refine v_iload_n h0 d_Te_readSign_113 1 rfl ?_
      refine v_iconst h0 d_Te_readSign_114 (v := nI 1) (by decide) ?_
      refine v_iadd h0 d_Te_readSign_115 ?_
      refine v_int (nI (k + 1)) (nI_add k 1) ?_
      refine v_iconst h0 d_Te_readSign_116 (v := nI 2) (by decide) ?_
      refine v_iload_n h0 d_Te_readSign_117 2 rfl ?_
      refine v_iload_n h0 d_Te_readSign_118 3 rfl ?_
      refine v_callV h0 hC (sB_N0 g) (17 + c) (show (17 + c) < 59 by omega) (eB_Te g (by omega) _) rfl (av := [.int (nI (k + 1)), .int (nI 2), .int (nI (6 - d)), .int bm]) (rest := []) (m_Te_readExpressions (kl K) g hI M hc (by omega) hd (by decide) hT hbm hRD) wd_216 wd_213 wd_215 ws_2 wd_3 hd_Te_readExpressions (by omega) (by decide) rfl rfl (Nat.le_of_ble_eq_true rfl) d_Te_readSign_119 (fun r9 M9 hp9 => ?_)
      obtain ⟨v, rfl⟩ : ∃ v, r9 = some (.int v) := by obtain ⟨_, _, _, h | h⟩ := hp9; exact ⟨_, h.2.1⟩; exact ⟨_, h.2⟩
      refine v_r1 ?_
      exact v_iret h0 hC hR d_Te_readSign_122 (sg_2 hk q hp9)
    · skip
      refine v_lookup h0 d_Te_readSign_6 (by decide) (off := 106) (by rw [h]; decide) rfl ?_
      refine v_aload_n h0 d_Te_readSign_112 0 rfl ?_
      refine v_iload_n h0 d_Te_readSign_113 1 rfl ?_
      refine v_iconst h0 d_Te_readSign_114 (v := nI 1) (by decide) ?_
      refine v_iadd h0 d_Te_readSign_115 ?_
      refine v_int (nI (k + 1)) (nI_add k 1) ?_
      refine v_iconst h0 d_Te_readSign_116 (v := nI 2) (by decide) ?_
      refine v_iload_n h0 d_Te_readSign_117 2 rfl ?_
      refine v_iload_n h0 d_Te_readSign_118 3 rfl ?_
      refine v_callV h0 hC (sB_N0 g) (17 + c) (show (17 + c) < 59 by omega) (eB_Te g (by omega) _) rfl (av := [.int (nI (k + 1)), .int (nI 2), .int (nI (6 - d)), .int bm]) (rest := []) (m_Te_readExpressions (kl K) g hI M hc (by omega) hd (by decide) hT hbm hRD) wd_216 wd_213 wd_215 ws_2 wd_3 hd_Te_readExpressions (by omega) (by decide) rfl rfl (Nat.le_of_ble_eq_true rfl) d_Te_readSign_119 (fun r9 M9 hp9 => ?_)
      obtain ⟨v, rfl⟩ : ∃ v, r9 = some (.int v) := by obtain ⟨_, _, _, h | h⟩ := hp9; exact ⟨_, h.2.1⟩; exact ⟨_, h.2⟩
      refine v_r1 ?_
      exact v_iret h0 hC hR d_Te_readSign_122 (sg_2 hk q hp9)
    · skip
      refine v_lookup h0 d_Te_readSign_6 (by decide) (off := 106) (by rw [h]; decide) rfl ?_
      refine v_aload_n h0 d_Te_readSign_112 0 rfl ?_
      refine v_iload_n h0 d_Te_readSign_113 1 rfl ?_
      refine v_iconst h0 d_Te_readSign_114 (v := nI 1) (by decide) ?_
      refine v_iadd h0 d_Te_readSign_115 ?_
      refine v_int (nI (k + 1)) (nI_add k 1) ?_
      refine v_iconst h0 d_Te_readSign_116 (v := nI 2) (by decide) ?_
      refine v_iload_n h0 d_Te_readSign_117 2 rfl ?_
      refine v_iload_n h0 d_Te_readSign_118 3 rfl ?_
      refine v_callV h0 hC (sB_N0 g) (17 + c) (show (17 + c) < 59 by omega) (eB_Te g (by omega) _) rfl (av := [.int (nI (k + 1)), .int (nI 2), .int (nI (6 - d)), .int bm]) (rest := []) (m_Te_readExpressions (kl K) g hI M hc (by omega) hd (by decide) hT hbm hRD) wd_216 wd_213 wd_215 ws_2 wd_3 hd_Te_readExpressions (by omega) (by decide) rfl rfl (Nat.le_of_ble_eq_true rfl) d_Te_readSign_119 (fun r9 M9 hp9 => ?_)
      obtain ⟨v, rfl⟩ : ∃ v, r9 = some (.int v) := by obtain ⟨_, _, _, h | h⟩ := hp9; exact ⟨_, h.2.1⟩; exact ⟨_, h.2⟩
      refine v_r1 ?_
      exact v_iret h0 hC hR d_Te_readSign_122 (sg_2 hk q hp9)
    · skip
      refine v_lookup h0 d_Te_readSign_6 (by decide) (off := 106) (by rw [h]; decide) rfl ?_
      refine v_aload_n h0 d_Te_readSign_112 0 rfl ?_
      refine v_iload_n h0 d_Te_readSign_113 1 rfl ?_
      refine v_iconst h0 d_Te_readSign_114 (v := nI 1) (by decide) ?_
      refine v_iadd h0 d_Te_readSign_115 ?_
      refine v_int (nI (k + 1)) (nI_add k 1) ?_
      refine v_iconst h0 d_Te_readSign_116 (v := nI 2) (by decide) ?_
      refine v_iload_n h0 d_Te_readSign_117 2 rfl ?_
      refine v_iload_n h0 d_Te_readSign_118 3 rfl ?_
      refine v_callV h0 hC (sB_N0 g) (17 + c) (show (17 + c) < 59 by omega) (eB_Te g (by omega) _) rfl (av := [.int (nI (k + 1)), .int (nI 2), .int (nI (6 - d)), .int bm]) (rest := []) (m_Te_readExpressions (kl K) g hI M hc (by omega) hd (by decide) hT hbm hRD) wd_216 wd_213 wd_215 ws_2 wd_3 hd_Te_readExpressions (by omega) (by decide) rfl rfl (Nat.le_of_ble_eq_true rfl) d_Te_readSign_119 (fun r9 M9 hp9 => ?_)
      obtain ⟨v, rfl⟩ : ∃ v, r9 = some (.int v) := by obtain ⟨_, _, _, h | h⟩ := hp9; exact ⟨_, h.2.1⟩; exact ⟨_, h.2⟩
      refine v_r1 ?_
      exact v_iret h0 hC hR d_Te_readSign_122 (sg_2 hk q hp9)
    · skip
      refine v_lookup h0 d_Te_readSign_6 (by decide) (off := 106) (by rw [h]; decide) rfl ?_
      refine v_aload_n h0 d_Te_readSign_112 0 rfl ?_
      refine v_iload_n h0 d_Te_readSign_113 1 rfl ?_
      refine v_iconst h0 d_Te_readSign_114 (v := nI 1) (by decide) ?_
      refine v_iadd h0 d_Te_readSign_115 ?_
      refine v_int (nI (k + 1)) (nI_add k 1) ?_
      refine v_iconst h0 d_Te_readSign_116 (v := nI 2) (by decide) ?_
      refine v_iload_n h0 d_Te_readSign_117 2 rfl ?_
      refine v_iload_n h0 d_Te_readSign_118 3 rfl ?_
      refine v_callV h0 hC (sB_N0 g) (17 + c) (show (17 + c) < 59 by omega) (eB_Te g (by omega) _) rfl (av := [.int (nI (k + 1)), .int (nI 2), .int (nI (6 - d)), .int bm]) (rest := []) (m_Te_readExpressions (kl K) g hI M hc (by omega) hd (by decide) hT hbm hRD) wd_216 wd_213 wd_215 ws_2 wd_3 hd_Te_readExpressions (by omega) (by decide) rfl rfl (Nat.le_of_ble_eq_true rfl) d_Te_readSign_119 (fun r9 M9 hp9 => ?_)
      obtain ⟨v, rfl⟩ : ∃ v, r9 = some (.int v) := by obtain ⟨_, _, _, h | h⟩ := hp9; exact ⟨_, h.2.1⟩; exact ⟨_, h.2⟩
      refine v_r1 ?_
      exact v_iret h0 hC hR d_Te_readSign_122 (sg_2 hk q hp9)
    · skip
      refine v_lookup h0 d_Te_readSign_6 (by decide) (off := 106) (by rw [h]; decide) rfl ?_
      refine v_aload_n h0 d_Te_readSign_112 0 rfl ?_
      refine v_iload_n h0 d_Te_readSign_113 1 rfl ?_
      refine v_iconst h0 d_Te_readSign_114 (v := nI 1) (by decide) ?_
      refine v_iadd h0 d_Te_readSign_115 ?_
      refine v_int (nI (k + 1)) (nI_add k 1) ?_
      refine v_iconst h0 d_Te_readSign_116 (v := nI 2) (by decide) ?_
      refine v_iload_n h0 d_Te_readSign_117 2 rfl ?_
      refine v_iload_n h0 d_Te_readSign_118 3 rfl ?_
      refine v_callV h0 hC (sB_N0 g) (17 + c) (show (17 + c) < 59 by omega) (eB_Te g (by omega) _) rfl (av := [.int (nI (k + 1)), .int (nI 2), .int (nI (6 - d)), .int bm]) (rest := []) (m_Te_readExpressions (kl K) g hI M hc (by omega) hd (by decide) hT hbm hRD) wd_216 wd_213 wd_215 ws_2 wd_3 hd_Te_readExpressions (by omega) (by decide) rfl rfl (Nat.le_of_ble_eq_true rfl) d_Te_readSign_119 (fun r9 M9 hp9 => ?_)
      obtain ⟨v, rfl⟩ : ∃ v, r9 = some (.int v) := by obtain ⟨_, _, _, h | h⟩ := hp9; exact ⟨_, h.2.1⟩; exact ⟨_, h.2⟩
      refine v_r1 ?_
      exact v_iret h0 hC hR d_Te_readSign_122 (sg_2 hk q hp9)
  · skip
    refine v_lookup h0 d_Te_readSign_6 (by decide) (off := 117) (by rw [(kd_1 _).mp q]; decide) rfl ?_
    refine v_aload_n h0 d_Te_readSign_123 0 rfl ?_
    refine v_iload_n h0 d_Te_readSign_124 1 rfl ?_
    refine v_iconst h0 d_Te_readSign_125 (v := nI 1) (by decide) ?_
    refine v_iadd h0 d_Te_readSign_126 ?_
    refine v_int (nI (k + 1)) (nI_add k 1) ?_
    refine v_iconst h0 d_Te_readSign_127 (v := nI 1) (by decide) ?_
    refine v_iload_n h0 d_Te_readSign_128 2 rfl ?_
    refine v_iload_n h0 d_Te_readSign_129 3 rfl ?_
    refine v_callV h0 hC (sB_N0 g) (17 + c) (show (17 + c) < 59 by omega) (eB_Te g (by omega) _) rfl (av := [.int (nI (k + 1)), .int (nI 1), .int (nI (6 - d)), .int bm]) (rest := []) (m_Te_readExpressions (kl K) g hI M hc (by omega) hd (by decide) hT hbm hRD) wd_216 wd_213 wd_215 ws_2 wd_3 hd_Te_readExpressions (by omega) (by decide) rfl rfl (Nat.le_of_ble_eq_true rfl) d_Te_readSign_130 (fun r9 M9 hp9 => ?_)
    obtain ⟨v, rfl⟩ : ∃ v, r9 = some (.int v) := by obtain ⟨_, _, _, h | h⟩ := hp9; exact ⟨_, h.2.1⟩; exact ⟨_, h.2⟩
    refine v_r1 ?_
    exact v_iret h0 hC hR d_Te_readSign_133 (sg_1 hk q hp9)
  · skip
    refine v_lookup h0 d_Te_readSign_6 (by decide) (off := 128) (by rw [(kd_3 _).mp q]; decide) rfl ?_
    refine v_aload_n h0 d_Te_readSign_134 0 rfl ?_
    refine v_iload_n h0 d_Te_readSign_135 1 rfl ?_
    refine v_iconst h0 d_Te_readSign_136 (v := nI 1) (by decide) ?_
    refine v_iadd h0 d_Te_readSign_137 ?_
    refine v_int (nI (k + 1)) (nI_add k 1) ?_
    refine v_iconst h0 d_Te_readSign_138 (v := nI 3) (by decide) ?_
    refine v_iload_n h0 d_Te_readSign_139 2 rfl ?_
    refine v_iload_n h0 d_Te_readSign_140 3 rfl ?_
    refine v_callV h0 hC (sB_N0 g) (17 + c) (show (17 + c) < 59 by omega) (eB_Te g (by omega) _) rfl (av := [.int (nI (k + 1)), .int (nI 3), .int (nI (6 - d)), .int bm]) (rest := []) (m_Te_readExpressions (kl K) g hI M hc (by omega) hd (by decide) hT hbm hRD) wd_216 wd_213 wd_215 ws_2 wd_3 hd_Te_readExpressions (by omega) (by decide) rfl rfl (Nat.le_of_ble_eq_true rfl) d_Te_readSign_141 (fun r9 M9 hp9 => ?_)
    obtain ⟨v, rfl⟩ : ∃ v, r9 = some (.int v) := by obtain ⟨_, _, _, h | h⟩ := hp9; exact ⟨_, h.2.1⟩; exact ⟨_, h.2⟩
    refine v_r1 ?_
    exact v_iret h0 hC hR d_Te_readSign_144 (sg_3 hk q hp9)
  · skip
    refine v_lookup h0 d_Te_readSign_6 (by decide) (off := 139) (by rw [(kd_4 _).mp q]; decide) rfl ?_
    refine v_aload_n h0 d_Te_readSign_145 0 rfl ?_
    refine v_iload_n h0 d_Te_readSign_146 1 rfl ?_
    refine v_iload_n h0 d_Te_readSign_147 2 rfl ?_
    refine v_iload_n h0 d_Te_readSign_148 3 rfl ?_
    refine v_callV h0 hC (sB_N0 g) (17 + c) (show (17 + c) < 59 by omega) (eB_Te g (by omega) _) rfl (av := [.int (nI k), .int (nI (6 - d)), .int bm]) (rest := []) (m_Te_readBinding (kl K) g hI M hc hk hd hT hbm hRD q) wd_220 wd_217 wd_219 ws_3 wd_3 hd_Te_readBinding (by omega) (by decide) rfl rfl (Nat.le_of_ble_eq_true rfl) d_Te_readSign_149 (fun r9 M9 hp9 => ?_)
    obtain ⟨v, rfl⟩ : ∃ v, r9 = some (.int v) := by obtain ⟨_, _, _, h | h⟩ := hp9; exact ⟨_, h.2.1⟩; exact ⟨_, h.2⟩
    refine v_r1 ?_
    exact v_iret h0 hC hR d_Te_readSign_152 (hp9)
  · skip
    refine v_lookup h0 d_Te_readSign_6 (by decide) (off := 147) (by rw [(kd_5 _).mp q]; decide) rfl ?_
    refine v_aload_n h0 d_Te_readSign_153 0 rfl ?_
    refine v_iload_n h0 d_Te_readSign_154 1 rfl ?_
    refine v_iconst h0 d_Te_readSign_155 (v := nI 1) (by decide) ?_
    refine v_iadd h0 d_Te_readSign_156 ?_
    refine v_int (nI (k + 1)) (nI_add k 1) ?_
    refine v_callV h0 hC (sB_N0 g) (17 + c) (show (17 + c) < 59 by omega) (eB_Te g (by omega) _) rfl (av := [.int (nI (k + 1))]) (rest := []) (m_Te_readName (kl K) g hI M hc (by omega) hT) wd_224 wd_221 wd_223 ws_4 wd_3 hd_Te_readName (by omega) (by decide) rfl rfl (Nat.le_of_ble_eq_true rfl) d_Te_readSign_157 (fun r9 M9 hp9 => ?_)
    rcases hp9 with ⟨q1, q2, rfl, rfl⟩ | ⟨q1, rfl, rfl⟩
    · skip
      refine v_r1 ?_
      refine v_iconst h0 d_Te_readSign_160 (v := -1) (by decide) ?_
      refine v_icmp_ne h0 d_Te_readSign_161 rfl (fun h161 => ?_) (fun h161 => absurd h161 (nI_m1 (by omega)))
      refine v_aload_n h0 d_Te_readSign_168 0 rfl ?_
      refine v_iload_n h0 d_Te_readSign_169 1 rfl ?_
      refine v_iconst h0 d_Te_readSign_170 (v := nI 2) (by decide) ?_
      refine v_iadd h0 d_Te_readSign_171 ?_
      refine v_int (nI (k + 2)) (nI_add k 2) ?_
      refine v_iload_n h0 d_Te_readSign_172 2 rfl ?_
      refine v_iload_n h0 d_Te_readSign_173 3 rfl ?_
      refine v_callV h0 hC (sB_N0 g) (17 + c) (show (17 + c) < 59 by omega) (eB_Te g (by omega) _) rfl (av := [.int (nI (k + 2)), .int (nI (6 - d)), .int bm]) (rest := []) (hRD (rdM M c (a ||| (1 <<< (nI (nmI (s (k + 1))) &&& 31))) e) c n (k + 2) s e _ bm b hc (by omega) (hT.rd _ _) hbm) wd_208 wd_205 wd_207 ws_0 wd_3 hd_Te_readExpression (by omega) (by decide) rfl rfl (Nat.le_of_ble_eq_true rfl) d_Te_readSign_174 (fun r9 M9 hp9 => ?_)
      obtain ⟨v, rfl⟩ : ∃ v, r9 = some (.int v) := by obtain ⟨_, _, _, h | h⟩ := hp9; exact ⟨_, h.2.1⟩; exact ⟨_, h.2⟩
      refine v_r1 ?_
      exact v_iret h0 hC hR d_Te_readSign_177 (sg_5 hk q q1 q2 (RdP_re hp9))
    · skip
      refine v_r1 ?_
      refine v_iconst h0 d_Te_readSign_160 (v := -1) (by decide) ?_
      refine v_icmp_ne h0 d_Te_readSign_161 rfl (fun h161 => absurd h161 (fun z => z rfl)) (fun h161 => ?_)
      refine v_iconst h0 d_Te_readSign_164 (v := -1) (by decide) ?_
      refine v_goto h0 d_Te_readSign_165 rfl ?_
      exact v_iret h0 hC hR d_Te_readSign_177 (leaf_no hT (by rw [OK_5 s n d b k q, dec_noc q1]; simp))
  · skip
    refine v_lookup h0 d_Te_readSign_6 (by decide) (off := 172) (by rw [(kd_6 _).mp q]; decide) rfl ?_
    refine v_aload_n h0 d_Te_readSign_178 0 rfl ?_
    refine v_iload_n h0 d_Te_readSign_179 1 rfl ?_
    refine v_iload_n h0 d_Te_readSign_180 2 rfl ?_
    refine v_iload_n h0 d_Te_readSign_181 3 rfl ?_
    refine v_callV h0 hC (sB_N0 g) (17 + c) (show (17 + c) < 59 by omega) (eB_Te g (by omega) _) rfl (av := [.int (nI k), .int (nI (6 - d)), .int bm]) (rest := []) (m_Te_readMatch (kl K) g hI M hc hk hd hT hbm hRD q) wd_231 wd_228 wd_230 ws_5 wd_3 hd_Te_readMatch (by omega) (by decide) rfl rfl (Nat.le_of_ble_eq_true rfl) d_Te_readSign_182 (fun r9 M9 hp9 => ?_)
    obtain ⟨v, rfl⟩ : ∃ v, r9 = some (.int v) := by obtain ⟨_, _, _, h | h⟩ := hp9; exact ⟨_, h.2.1⟩; exact ⟨_, h.2⟩
    refine v_r1 ?_
    exact v_iret h0 hC hR d_Te_readSign_185 (hp9)
  · skip
    refine v_lookup h0 d_Te_readSign_6 (by decide) (lk_leaf (by omega) _ (by decide)) rfl ?_
    refine v_aload_n h0 d_Te_readSign_186 0 rfl ?_
    refine v_iload_n h0 d_Te_readSign_187 1 rfl ?_
    refine v_iload_n h0 d_Te_readSign_188 3 rfl ?_
    refine v_callV h0 hC (sB_N0 g) (17 + c) (show (17 + c) < 59 by omega) (eB_Te g (by omega) _) rfl (av := [.int (nI k), .int bm]) (rest := []) (m_Te_readLeaf (kl K) g hI M hc hk hT hbm (by omega) (d := d)) wd_238 wd_235 wd_237 ws_6 wd_3 hd_Te_readLeaf (by omega) (by decide) rfl rfl (Nat.le_of_ble_eq_true rfl) d_Te_readSign_189 (fun r9 M9 hp9 => ?_)
    obtain ⟨v, rfl⟩ : ∃ v, r9 = some (.int v) := by obtain ⟨_, _, _, h | h⟩ := hp9; exact ⟨_, h.2.1⟩; exact ⟨_, h.2⟩
    refine v_r1 ?_
    exact v_iret h0 hC hR d_Te_readSign_192 (hp9)
  · skip
    refine v_lookup h0 d_Te_readSign_6 (by decide) (lk_leaf (by omega) _ (by decide)) rfl ?_
    refine v_aload_n h0 d_Te_readSign_186 0 rfl ?_
    refine v_iload_n h0 d_Te_readSign_187 1 rfl ?_
    refine v_iload_n h0 d_Te_readSign_188 3 rfl ?_
    refine v_callV h0 hC (sB_N0 g) (17 + c) (show (17 + c) < 59 by omega) (eB_Te g (by omega) _) rfl (av := [.int (nI k), .int bm]) (rest := []) (m_Te_readLeaf (kl K) g hI M hc hk hT hbm (by omega) (d := d)) wd_238 wd_235 wd_237 ws_6 wd_3 hd_Te_readLeaf (by omega) (by decide) rfl rfl (Nat.le_of_ble_eq_true rfl) d_Te_readSign_189 (fun r9 M9 hp9 => ?_)
    obtain ⟨v, rfl⟩ : ∃ v, r9 = some (.int v) := by obtain ⟨_, _, _, h | h⟩ := hp9; exact ⟨_, h.2.1⟩; exact ⟨_, h.2⟩
    refine v_r1 ?_
    exact v_iret h0 hC hR d_Te_readSign_192 (hp9)
  · skip
    refine v_lookup h0 d_Te_readSign_6 (by decide) (lk_leaf (by omega) _ (by decide)) rfl ?_
    refine v_aload_n h0 d_Te_readSign_186 0 rfl ?_
    refine v_iload_n h0 d_Te_readSign_187 1 rfl ?_
    refine v_iload_n h0 d_Te_readSign_188 3 rfl ?_
    refine v_callV h0 hC (sB_N0 g) (17 + c) (show (17 + c) < 59 by omega) (eB_Te g (by omega) _) rfl (av := [.int (nI k), .int bm]) (rest := []) (m_Te_readLeaf (kl K) g hI M hc hk hT hbm (by omega) (d := d)) wd_238 wd_235 wd_237 ws_6 wd_3 hd_Te_readLeaf (by omega) (by decide) rfl rfl (Nat.le_of_ble_eq_true rfl) d_Te_readSign_189 (fun r9 M9 hp9 => ?_)
    obtain ⟨v, rfl⟩ : ∃ v, r9 = some (.int v) := by obtain ⟨_, _, _, h | h⟩ := hp9; exact ⟨_, h.2.1⟩; exact ⟨_, h.2⟩
    refine v_r1 ?_
    exact v_iret h0 hC hR d_Te_readSign_192 (hp9)
  · skip
    refine v_lookup h0 d_Te_readSign_6 (by decide) (lk_leaf (by omega) _ (by decide)) rfl ?_
    refine v_aload_n h0 d_Te_readSign_186 0 rfl ?_
    refine v_iload_n h0 d_Te_readSign_187 1 rfl ?_
    refine v_iload_n h0 d_Te_readSign_188 3 rfl ?_
    refine v_callV h0 hC (sB_N0 g) (17 + c) (show (17 + c) < 59 by omega) (eB_Te g (by omega) _) rfl (av := [.int (nI k), .int bm]) (rest := []) (m_Te_readLeaf (kl K) g hI M hc hk hT hbm (by omega) (d := d)) wd_238 wd_235 wd_237 ws_6 wd_3 hd_Te_readLeaf (by omega) (by decide) rfl rfl (Nat.le_of_ble_eq_true rfl) d_Te_readSign_189 (fun r9 M9 hp9 => ?_)
    obtain ⟨v, rfl⟩ : ∃ v, r9 = some (.int v) := by obtain ⟨_, _, _, h | h⟩ := hp9; exact ⟨_, h.2.1⟩; exact ⟨_, h.2⟩
    refine v_r1 ?_
    exact v_iret h0 hC hR d_Te_readSign_192 (hp9)
end
section
/-! READING AN EXPRESSION, AND A TEXT (the book) -/
set_option maxHeartbeats 4000000 in
theorem rd_0 (l : Launch) (g : Gd) (hI : sI (sB g)) : RD l g 0 := by
  intro M c n k s e a bm b hc hk hT hbm
  have hn24 : n ≤ 24 := hT.2.2.2.2.2
  refine Ct.of hI (sB_N0 g) rfl (Nat.le_of_ble_eq_true rfl) (fun K h0 hC hR hkl hn => ?_)
  have hC : Cx (sB g) K gC_Te _ := hC
  subst hkl
  show V K (wp (sB g)) M 0 [(0, .ref (ga g (17 + c))), (1, .int (nI k)), (2, .int (nI (6 - 0))), (3, .int bm)] []
  refine v_iload_n h0 d_Te_readExpression_0 1 rfl ?_
  refine v_if_lt h0 d_Te_readExpression_1 rfl (fun h1 => absurd h1 (nI_pos (by omega))) (fun h1 => ?_)
  refine v_iload_n h0 d_Te_readExpression_4 1 rfl ?_
  refine v_aload_n h0 d_Te_readExpression_5 0 rfl ?_
  refine g_Te_length h0 hC (by omega) wd_33 d_Te_readExpression_6 ?_
  refine v_int (nI n) (hT.2.1) ?_
  refine n_icmp_ge h0 (by omega) (by omega) d_Te_readExpression_9 rfl (fun h9 => ?_) (fun h9 => ?_)
  · skip
    refine v_iconst h0 d_Te_readExpression_17 (v := -1) (by decide) ?_
    exact v_iret h0 hC hR d_Te_readExpression_18 (⟨a, e, hT.id, Or.inr ⟨rfl, rfl⟩⟩)
  · skip
    refine v_iload_n h0 d_Te_readExpression_12 2 rfl ?_
    refine v_iconst h0 d_Te_readExpression_13 (v := nI 5) (by decide) ?_
    refine n_icmp_le h0 (by omega) (by omega) d_Te_readExpression_14 rfl (fun h14 => absurd h14 (by omega)) (fun h14 => ?_)
    refine v_iconst h0 d_Te_readExpression_17 (v := -1) (by decide) ?_
    exact v_iret h0 hC hR d_Te_readExpression_18 (⟨a, e, hT.id, Or.inr ⟨rfl, rfl⟩⟩)
set_option maxHeartbeats 4000000 in
theorem rd_succ (l : Launch) (g : Gd) (hI : sI (sB g)) {d : Nat} (hd : d + 1 ≤ 6) (hRD : RD l g d) : RD l g (d + 1) := by
  intro M c n k s e a bm b hc hk hT hbm
  have hn24 : n ≤ 24 := hT.2.2.2.2.2
  refine Ct.of hI (sB_N0 g) rfl (Nat.le_of_ble_eq_true rfl) (fun K h0 hC hR hkl hn => ?_)
  have hC : Cx (sB g) K gC_Te _ := hC
  subst hkl
  show V K (wp (sB g)) M 0 [(0, .ref (ga g (17 + c))), (1, .int (nI k)), (2, .int (nI (6 - (d + 1)))), (3, .int bm)] []
  refine v_iload_n h0 d_Te_readExpression_0 1 rfl ?_
  refine v_if_lt h0 d_Te_readExpression_1 rfl (fun h1 => absurd h1 (nI_pos (by omega))) (fun h1 => ?_)
  refine v_iload_n h0 d_Te_readExpression_4 1 rfl ?_
  refine v_aload_n h0 d_Te_readExpression_5 0 rfl ?_
  refine g_Te_length h0 hC (by omega) wd_33 d_Te_readExpression_6 ?_
  refine v_int (nI n) (hT.2.1) ?_
  refine n_icmp_ge h0 (by omega) (by omega) d_Te_readExpression_9 rfl (fun h9 => ?_) (fun h9 => ?_)
  · skip
    refine v_iconst h0 d_Te_readExpression_17 (v := -1) (by decide) ?_
    exact v_iret h0 hC hR d_Te_readExpression_18 (⟨a, e, hT.id, Or.inr ⟨by simp only [OK, decide_eq_false (Nat.not_lt.mpr h9), Bool.false_and], rfl⟩⟩)
  · skip
    refine v_iload_n h0 d_Te_readExpression_12 2 rfl ?_
    refine v_iconst h0 d_Te_readExpression_13 (v := nI 5) (by decide) ?_
    refine n_icmp_le h0 (by omega) (by omega) d_Te_readExpression_14 rfl (fun h14 => ?_) (fun h14 => absurd h14 (by omega))
    refine v_aload_n h0 d_Te_readExpression_19 0 rfl ?_
    refine v_iload_n h0 d_Te_readExpression_20 1 rfl ?_
    refine v_iload_n h0 d_Te_readExpression_21 2 rfl ?_
    refine v_iconst h0 d_Te_readExpression_22 (v := nI 1) (by decide) ?_
    refine v_iadd h0 d_Te_readExpression_23 ?_
    refine v_int (nI (6 - (d + 1) + 1)) (nI_add (6 - (d + 1)) 1) ?_
    refine v_int (nI (6 - d)) (sub_lev hd) ?_
    refine v_iload_n h0 d_Te_readExpression_24 3 rfl ?_
    refine v_callV h0 hC (sB_N0 g) (17 + c) (show (17 + c) < 59 by omega) (eB_Te g (by omega) _) rfl (av := [.int (nI k), .int (nI (6 - d)), .int bm]) (rest := []) (m_Te_readSign (kl K) g hI M hc h9 (by omega) hT hbm hRD) wd_212 wd_209 wd_211 ws_1 wd_3 hd_Te_readSign (by omega) (by decide) rfl rfl (Nat.le_of_ble_eq_true rfl) d_Te_readExpression_25 (fun r9 M9 hp9 => ?_)
    obtain ⟨a1, e1, rfl, hq9⟩ := hp9
    rcases hq9 with ⟨q1, rfl, rfl, q4, q5⟩ | ⟨q1, rfl⟩
    · skip
      refine v_r1 ?_
      refine v_istore h0 d_Te_readExpression_28 (lv' := [(4, .int (nI (EN s (d + 1) k))), (0, .ref (ga g (17 + c))), (1, .int (nI k)), (2, .int (nI (6 - (d + 1)))), (3, .int bm)]) (lt_kn hn (by decide)) rfl ?_
      refine v_aload_n h0 d_Te_readExpression_30 1 rfl ?_
      refine g_Te_ends h0 hC (by omega) wd_32 d_Te_readExpression_31 ?_
      refine v_iload_n h0 d_Te_readExpression_34 2 rfl ?_
      refine v_iload h0 d_Te_readExpression_35 0 rfl ?_
      refine s_B_ends h0 hC (by omega) k (rfl) (z := nI (EN s (d + 1) k)) (rfl) (by omega) d_Te_readExpression_37 ?_
      refine v_iload h0 d_Te_readExpression_38 0 rfl ?_
      exact v_iret h0 hC hR d_Te_readExpression_40 (⟨_, _, rdM_en _ _ _ _ _ _, Or.inl ⟨q1, rfl, rfl, q4, fun j hj => by have hE := OK_ends s n _ _ _ q1; rw [pk_un (by omega)]; exact q5 j (by omega)⟩⟩)
    · skip
      refine v_r1 ?_
      refine v_istore h0 d_Te_readExpression_28 (lv' := [(4, .int (-1)), (0, .ref (ga g (17 + c))), (1, .int (nI k)), (2, .int (nI (6 - (d + 1)))), (3, .int bm)]) (lt_kn hn (by decide)) rfl ?_
      refine v_aload_n h0 d_Te_readExpression_30 1 rfl ?_
      refine g_Te_ends h0 hC (by omega) wd_32 d_Te_readExpression_31 ?_
      refine v_iload_n h0 d_Te_readExpression_34 2 rfl ?_
      refine v_iload h0 d_Te_readExpression_35 0 rfl ?_
      refine s_B_ends h0 hC (by omega) k (rfl) (z := -1) (rfl) (by omega) d_Te_readExpression_37 ?_
      refine v_iload h0 d_Te_readExpression_38 0 rfl ?_
      exact v_iret h0 hC hR d_Te_readExpression_40 (⟨_, _, rdM_en _ _ _ _ _ _, Or.inr ⟨q1, rfl⟩⟩)
theorem rd_all (l : Launch) (g : Gd) (hI : sI (sB g)) : ∀ d, d ≤ 6 → RD l g d := by
  intro d
  induction d with
  | zero => intro _; exact rd_0 l g hI
  | succ d ih => intro hd; exact rd_succ l g hI hd (ih (by omega))
end
section
/-! A TEXT IS READ (the book) -/
theorem wd_min1 : Cond.methodLink gC_Te 33 Lib.Math.min.name ∈ wG := wG_tb 188 rfl rfl
theorem wd_min2 : Cond.static Lib.Math.min.name ∈ wG := wG_tb 189 rfl rfl
theorem wd_min3 : Cond.code Lib.Math.min.name Lib.Math.min.code 2 (some .int) ∈ wG := wG_tb 190 rfl rfl
theorem wd_min4 : Cond.initialized "java/lang/Math" ∈ wG := wG_tb 7 rfl rfl
theorem wd_cp1 : Cond.methodLink gC_Te 39 arraycopyName ∈ wG := wG_tb 191 rfl rfl
theorem wd_cp2 : Cond.static arraycopyName ∈ wG := wG_tb 192 rfl rfl
theorem wd_cp3 : Cond.native arraycopyName ∈ wG := wG_tb 193 rfl rfl
theorem wd_cp4 : Cond.initialized "java/lang/System" ∈ wG := wG_tb 8 rfl rfl
section MC
variable {g : Gd} {K : Cf} {own : String} {h : Nat} {M : Me} {cc : ByteArray} {pc ix : Nat} {lv : List (Nat × Value)} {rest : List Value}
theorem v_mmin (h0 : C0 K cc) (hC : Cx (sB g) K own h) (hlk : Cond.methodLink own ix Lib.Math.min.name ∈ wG) (hh : 1 ≤ h) (hr : (rest.map fun v => v.category).sum ≤ 8) {a b : Nat} (hab : a ≤ b) (hb : b < 2 ^ 31) (hdg : decode cc pc = .ok (.invokestatic ix, 3)) (kk : V K (wp (sB g)) M (pc + 3) lv (.int (nI a) :: rest)) : V K (wp (sB g)) M pc lv (.int (nI b) :: .int (nI a) :: rest) := fun H locs ls hw hS hl => by
  obtain ⟨hcs, hsl⟩ := room_0 hC
  have r1 : 1 ≤ (kR K).frames := by rw [hC.r]; exact hh
  have r2 : (rest.map fun v => v.category).sum + 13 ≤ (kR K).locals := by
    have e : (kR K).locals = 64 * h := by rw [hC.r]
    omega
  refine va_mmin h0.1 h0.2 (hC.ml.trans hl.1.symm) hC.own (hC.ts _ hlk) (hC.ts _ wd_min2) (hC.ts _ wd_min4) (hC.ts _ wd_min3) r1 r2 hcs hsl hdg ?_
  rw [if_neg (nI_nlt hab hb)]
  exact kk H locs ls hw hS hl
theorem v_copyc (h0 : C0 K cc) (hC : Cx (sB g) K own h) (hlk : Cond.methodLink own ix arraycopyName ∈ wG) (hh : 1 ≤ h) (hr : (rest.map fun v => v.category).sum ≤ 8) {c n : Nat} (hc : c < 10) (hn : n ≤ 24) (hf : ∀ j, j < n → fits .char (.int (M 5 j)) = true) (hdg : decode cc pc = .ok (.invokestatic ix, 3)) (kk : V K (wp (sB g)) (upR M (27 + c) (va_cpy (M 5) (M (27 + c)) 0 0 n)) (pc + 3) lv rest) : V K (wp (sB g)) M pc lv (.int (nI n) :: .int (nI 0) :: .ref (ga g (27 + c)) :: .int (nI 0) :: .ref (ga g 5) :: rest) := fun H locs ls hw hS hl => by
  have e0 : (nI 0).toNatClampNeg = 0 := nI_clamp (by omega)
  have e1 : (nI n).toNatClampNeg = n := nI_clamp (by omega)
  have ha0 : (wl (sB g) M)[5]? = some (ga g 5, .inl (gk g 2, 24, .inl (M 5))) := by rw [wl_at (sB g) M (show 5 < 59 by decide), eB_typed]; rfl
  have ha1 : (wl (sB g) M)[27 + c]? = some (ga g (27 + c), .inl (gk g 2, 24, .inl (M (27 + c)))) := by rw [wl_at (sB g) M (show 27 + c < 59 by omega), eB_signs g hc]; rfl
  have r1 : 1 ≤ (kR K).frames := by rw [hC.r]; exact hh
  have r2 : (rest.map fun v => v.category).sum + (nativeFrameWords "java/lang/System" "arraycopy" 5 + 11) ≤ (kR K).locals := by
    have e : (kR K).locals = 64 * h := by rw [hC.r]
    have e2 : nativeFrameWords "java/lang/System" "arraycopy" 5 + 11 ≤ 40 := by decide
    omega
  refine va_copyi h0.1 h0.2 (hC.ml.trans hl.1.symm) hC.own (hC.ts _ hlk) (hC.ts _ wd_cp3) (hC.ts _ wd_cp2) (hC.ts _ wd_cp4) hC.k hw (hC.d M) hS 5 (27 + c) 2 2 (ty := .char) ha0 ha1 rfl rfl rfl (nI_pos (by omega)) (nI_pos (by omega)) (nI_pos (by omega)) (by omega) (by omega) (fun i hi => by rw [e0, Nat.zero_add]; exact hf i (by omega)) r1 r2 hdg (fun H1 locs1 hP1 _ hS1 => ?_)
  rw [e0, e1] at hP1
  exact kk H1 locs1 ls (wp_set (show 27 + c < sN (sB g) from (show 27 + c < 59 by omega)) (eB_signs g hc _) hP1) hS1 hl
end MC
theorem up2_r (M : Me) {i a : Nat} (k : Nat) (v : Int32) (h : a ≠ i) : up2 M i k v a = M a := upR_n _ _ h
def chF (s : Nat → Int32) : Prop := ∀ j, j < 24 → fits .char (.int (s j)) = true
theorem fits_nar {x : Int32} (h : fits .char (.int x) = true) : narrow .char (.int x) = .int x := by
  simp only [fits, Bool.and_eq_true, decide_eq_true_eq] at h
  obtain ⟨j, hj, rfl⟩ := nI_of2 (M := 65535) (n := 65535) (by decide) (Int32.not_lt.mpr h.1) h.2
  exact (pk_charN (by omega)).1
theorem chF.s {s : Nat → Int32} (h : chF s) : chS s := fun j hj => fits_nar (h j hj)
theorem chF.cpy {t s : Nat → Int32} {n : Nat} (ht : ∀ j, j < n → fits .char (.int (t j)) = true) (hs : chF s) : chF (va_cpy t s 0 0 n) := by
  intro j hj
  unfold va_cpy
  by_cases q : 0 ≤ j ∧ j < 0 + n
  · rw [if_pos q, Nat.zero_add, Nat.sub_zero]; exact ht j (by omega)
  · rw [if_neg q]; exact hs j hj
/-- a text's head, start, what is bound in it, whether it is well formed, its names -/
def tHd (s : Nat → Int32) (n : Nat) : Bool := decide (s 0 = 92) && (decide (1 < n) && decide (kd (s 1) = 9))
def tSt (s : Nat → Int32) (n : Nat) : Nat := if tHd s n = true then 2 else 0
def tB0 (s : Nat → Int32) (n : Nat) : Nat → Bool := fun j => tHd s n && decide (j = lcI (s 1))
def tWl (s : Nat → Int32) (n : Nat) : Bool := OK s n 6 (tB0 s n) (tSt s n) && decide (EN s 6 (tSt s n) = n)
def tNm (s : Nat → Int32) (n : Nat) : Int32 := if tWl s n = true then NM s 6 (tSt s n) else 0
/-- what a reading leaves -/
def ReP (M : Me) (c n : Nat) (s : Nat → Int32) (r : Option Value) (M' : Me) : Prop :=
  r = none ∧ (∀ i, i ≠ 17 + c → i ≠ 27 + c → i ≠ 37 + c → M' i = M i) ∧ M' (27 + c) = s ∧ M' (17 + c) 2 = nI n ∧ M' (17 + c) 3 = nI (tSt s n) ∧ M' (17 + c) 4 = bI (tWl s n) ∧ M' (17 + c) 5 = tNm s n ∧ (tWl s n = true → EO s (M' (37 + c)) 6 (tSt s n))
theorem BM_0 : BM 0 (fun _ => false) := fun j _ => b_0 j
set_option maxHeartbeats 4000000 in
theorem m_Te_read (l : Launch) (g : Gd) (hI : sI (sB g)) (M : Me) {c n : Nat} (hc : c < 10) (hn24 : n ≤ 24) (hn1 : 0 < n) (hf : ∀ j, j < n → fits .char (.int (M 5 j)) = true) (hch : chF (M (27 + c))) : CB l g y_Te_read c_Te_read 4 none 26 [.ref (ga g (17 + c)), .ref (ga g 5), .int (nI n)] M (ReP M c n (va_cpy (M 5) (M (27 + c)) 0 0 n)) := by
  have hs0 := (chF.cpy hf hch).s
  generalize hse : va_cpy (M 5) (M (27 + c)) 0 0 n = s
  have hs : chS s := by rw [← hse]; exact hs0
  refine Ct.of hI (sB_N0 g) rfl (Nat.le_of_ble_eq_true rfl) (fun K h0 hC hR hkl hn => ?_)
  have hC : Cx (sB g) K gC_Te _ := hC
  show V K (wp (sB g)) M 0 [(0, .ref (ga g (17 + c))), (1, .ref (ga g 5)), (2, .int (nI n))] []
  subst hkl
  have hX2 : TX (upR (up2 M (17 + c) 2 (nI n)) (27 + c) s) c s n (M (17 + c) 5) (M (37 + c)) := ⟨upR_s _ _ _, by rw [upR_n _ _ (by omega), up2_s], by rw [upR_n _ _ (by omega), up2_n _ _ (by omega)], by rw [upR_n _ _ (by omega), up2_r _ _ _ (by omega)], hs, hn24⟩
  have hX3_0 : TX (up2 (up2 (upR (up2 M (17 + c) 2 (nI n)) (27 + c) s) (17 + c) 3 (nI 0)) (17 + c) 5 (nI 0)) c s n 0 (M (37 + c)) := ⟨by rw [show (up2 (up2 (upR (up2 M (17 + c) 2 (nI n)) (27 + c) s) (17 + c) 3 (nI 0)) (17 + c) 5 (nI 0)) (27 + c) = (upR (up2 M (17 + c) 2 (nI n)) (27 + c) s) (27 + c) from by rw [up2_r _ _ _ (by omega), up2_r _ _ _ (by omega)]]; exact hX2.1, by rw [up2_n _ _ (by omega), up2_n _ _ (by omega)]; exact hX2.2.1, up2_s _ _ _ _, by rw [show (up2 (up2 (upR (up2 M (17 + c) 2 (nI n)) (27 + c) s) (17 + c) 3 (nI 0)) (17 + c) 5 (nI 0)) (37 + c) = (upR (up2 M (17 + c) 2 (nI n)) (27 + c) s) (37 + c) from by rw [up2_r _ _ _ (by omega), up2_r _ _ _ (by omega)]]; exact hX2.2.2.2.1, hs, hn24⟩
  have hX3_2 : TX (up2 (up2 (upR (up2 M (17 + c) 2 (nI n)) (27 + c) s) (17 + c) 3 (nI 2)) (17 + c) 5 (nI 0)) c s n 0 (M (37 + c)) := ⟨by rw [show (up2 (up2 (upR (up2 M (17 + c) 2 (nI n)) (27 + c) s) (17 + c) 3 (nI 2)) (17 + c) 5 (nI 0)) (27 + c) = (upR (up2 M (17 + c) 2 (nI n)) (27 + c) s) (27 + c) from by rw [up2_r _ _ _ (by omega), up2_r _ _ _ (by omega)]]; exact hX2.1, by rw [up2_n _ _ (by omega), up2_n _ _ (by omega)]; exact hX2.2.1, up2_s _ _ _ _, by rw [show (up2 (up2 (upR (up2 M (17 + c) 2 (nI n)) (27 + c) s) (17 + c) 3 (nI 2)) (17 + c) 5 (nI 0)) (37 + c) = (upR (up2 M (17 + c) 2 (nI n)) (27 + c) s) (37 + c) from by rw [up2_r _ _ _ (by omega), up2_r _ _ _ (by omega)]]; exact hX2.2.2.2.1, hs, hn24⟩
  refine v_aload_n h0 d_Te_read_0 0 rfl ?_
  refine v_iload_n h0 d_Te_read_1 2 rfl ?_
  refine v_bipush h0 d_Te_read_2 (v := nI 24) (by decide) ?_
  refine v_mmin h0 hC wd_min1 (by omega) (Nat.le_of_ble_eq_true rfl) hn24 (by decide) d_Te_read_4 ?_
  refine p_Te_length h0 hC (by omega) wd_33 d_Te_read_7 ?_
  refine v_aload_n h0 d_Te_read_10 1 rfl ?_
  refine v_iconst h0 d_Te_read_11 (v := nI 0) (by decide) ?_
  refine v_aload_n h0 d_Te_read_12 0 rfl ?_
  refine g_Te_signs h0 hC (by omega) wd_31 d_Te_read_13 ?_
  refine v_iconst h0 d_Te_read_16 (v := nI 0) (by decide) ?_
  refine v_aload_n h0 d_Te_read_17 0 rfl ?_
  refine g_Te_length h0 hC (by omega) wd_33 d_Te_read_18 ?_
  refine v_int (nI n) (up2_s _ _ _ _) ?_
  refine v_copyc h0 hC wd_cp1 (by omega) (Nat.le_of_ble_eq_true rfl) hc hn24 (fun j hj => by rw [show up2 M (17 + c) 2 (nI n) 5 j = M 5 j from up2_n _ _ (by omega)]; exact hf j hj) d_Te_read_21 ?_
  rw [show va_cpy ((up2 M (17 + c) 2 (nI n)) 5) ((up2 M (17 + c) 2 (nI n)) (27 + c)) 0 0 n = s from by rw [← hse, up2_r _ _ _ (by omega), up2_r _ _ _ (by omega)]]
  refine v_aload_n h0 d_Te_read_24 0 rfl ?_
  refine v_iconst h0 d_Te_read_25 (v := nI 0) (by decide) ?_
  refine v_callV h0 hC (sB_N0 g) (17 + c) (show (17 + c) < 59 by omega) (eB_Te g (by omega) _) rfl (av := [.int (nI 0)]) (rest := []) (m_Te_sign (kl K) g hI (upR (up2 M (17 + c) 2 (nI n)) (27 + c) s) hc (by omega) hX2) wd_197 wd_194 wd_195 wd_196 wd_3 hd_Te_signAt (by omega) (by decide) rfl rfl (Nat.le_of_ble_eq_true rfl) d_Te_read_26 (fun r9 M9 hp9 => ?_)
  obtain ⟨rfl, rfl⟩ := hp9
  refine v_r1 ?_
  refine v_bipush h0 d_Te_read_29 (v := nI 92) (by decide) ?_
  refine v_icmp_ne h0 d_Te_read_31 rfl (fun h31 => ?_) (fun h31 => ?_)
  · skip
    have hT0 : tHd s n = false := by unfold tHd; rw [decide_eq_false (fun z => h31 (by unfold sgA; rw [if_pos (by omega)]; exact z)), Bool.false_and]
    refine v_iconst h0 d_Te_read_49 (v := nI 0) (by decide) ?_
    refine v_istore_n h0 d_Te_read_50 (lv' := [(3, .int (nI 0)), (0, .ref (ga g (17 + c))), (1, .ref (ga g 5)), (2, .int (nI n))]) (lt_kn hn (by decide)) rfl ?_
    refine v_aload_n h0 d_Te_read_51 1 rfl ?_
    refine v_iload_n h0 d_Te_read_52 0 rfl ?_
    refine v_if_eq h0 d_Te_read_53 rfl (fun h53 => ?_) (fun h53 => absurd h53 (by decide))
    refine v_iconst h0 d_Te_read_60 (v := nI 0) (by decide) ?_
    refine p_Te_start h0 hC (by omega) wd_34 d_Te_read_61 ?_
    refine v_aload_n h0 d_Te_read_64 1 rfl ?_
    refine v_iconst h0 d_Te_read_65 (v := nI 0) (by decide) ?_
    refine p_Te_names h0 hC (by omega) wd_39 d_Te_read_66 ?_
    refine v_aload_n h0 d_Te_read_69 1 rfl ?_
    refine v_aload_n h0 d_Te_read_70 1 rfl ?_
    refine v_aload_n h0 d_Te_read_71 1 rfl ?_
    refine g_Te_start h0 hC (by omega) wd_34 d_Te_read_72 ?_
    refine v_int (nI 0) (by rw [up2_n _ _ (by omega), up2_s]) ?_
    refine v_iconst h0 d_Te_read_75 (v := nI 0) (by decide) ?_
    refine v_iload_n h0 d_Te_read_76 0 rfl ?_
    refine v_if_eq h0 d_Te_read_77 rfl (fun h77 => ?_) (fun h77 => absurd h77 (by decide))
    refine v_iconst h0 d_Te_read_90 (v := nI 0) (by decide) ?_
    refine v_callV h0 hC (sB_N0 g) (17 + c) (show (17 + c) < 59 by omega) (eB_Te g (by omega) _) rfl (av := [.int (nI 0), .int (nI 0), .int (nI 0)]) (rest := [.ref (ga g (17 + c))]) (rd_all (kl K) g hI 6 (by decide) (up2 (up2 (upR (up2 M (17 + c) 2 (nI n)) (27 + c) s) (17 + c) 3 (nI 0)) (17 + c) 5 (nI 0)) c n 0 s (M (37 + c)) 0 _ (fun _ => false) hc (by omega) hX3_0 BM_0) wd_208 wd_205 wd_207 ws_0 wd_3 hd_Te_readExpression (by omega) (by decide) rfl rfl (Nat.le_of_ble_eq_true rfl) d_Te_read_91 (fun r9 M9 hp9 => ?_)
    obtain ⟨a1, e1, rfl, hq9⟩ := hp9
    rcases hq9 with ⟨q1, rfl, rfl, q4, q5⟩ | ⟨q1, rfl⟩
    · skip
      refine v_r1 ?_
      refine v_aload_n h0 d_Te_read_94 1 rfl ?_
      refine g_Te_length h0 hC (by omega) wd_33 d_Te_read_95 ?_
      refine v_int (nI n) (by rw [rdM_t]; exact hX3_0.2.1) ?_
      refine n_icmp_ne h0 (by have := (OK_ends s n 6 _ _ q1).2; omega) (by omega) d_Te_read_98 rfl (fun h98 => ?_) (fun h98 => ?_)
      · skip
        refine v_iconst h0 d_Te_read_105 (v := nI 0) (by decide) ?_
        refine p_Te_wellFormed h0 hC (by omega) (by decide) wd_37 d_Te_read_106 ?_
        refine v_aload_n h0 d_Te_read_109 1 rfl ?_
        refine g_Te_wellFormed h0 hC (by omega) wd_37 d_Te_read_110 ?_
        refine v_int (nI 0) (up2_s _ _ _ _) ?_
        refine v_if_ne h0 d_Te_read_113 rfl (fun h113 => absurd h113 (by decide)) (fun h113 => ?_)
        refine v_aload_n h0 d_Te_read_116 1 rfl ?_
        refine v_iconst h0 d_Te_read_117 (v := nI 0) (by decide) ?_
        refine p_Te_names h0 hC (by omega) wd_39 d_Te_read_118 ?_
        have hst : tSt s n = 0 := by unfold tSt; rw [hT0]; rfl
        have hb0 : tB0 s n = (fun _ => false) := by funext j; unfold tB0; rw [hT0]; rfl
        have hwl : tWl s n = false := by unfold tWl; rw [hst, hb0, q1]; exact decide_eq_false h98
        refine v_vret h0 hC hR d_Te_read_121 ⟨rfl, fun i w1 w2 w3 => by simp only [upR, up2, rdM, w1, w2, w3, if_false], ?_, ?_, ?_, ?_, ?_, ?_⟩
        · rw [up2_r _ _ _ (by omega), up2_r _ _ _ (by omega), rdM_o _ _ _ _ (by omega) (by omega)]; exact hX3_0.1
        · rw [up2_n _ _ (by omega), up2_n _ _ (by omega), rdM_t]; exact hX3_0.2.1
        · rw [up2_n _ _ (by omega), up2_n _ _ (by omega), rdM_t, pk_un (by omega), up2_n _ _ (by omega), up2_s, hst]
        · rw [up2_n _ _ (by omega), up2_s, hwl]; rfl
        · rw [up2_s]; unfold tNm; rw [hwl]; rfl
        · intro z; rw [hwl] at z; cases z
      · skip
        refine v_iconst h0 d_Te_read_101 (v := nI 1) (by decide) ?_
        refine v_goto h0 d_Te_read_102 rfl ?_
        refine p_Te_wellFormed h0 hC (by omega) (by decide) wd_37 d_Te_read_106 ?_
        refine v_aload_n h0 d_Te_read_109 1 rfl ?_
        refine g_Te_wellFormed h0 hC (by omega) wd_37 d_Te_read_110 ?_
        refine v_int (nI 1) (up2_s _ _ _ _) ?_
        refine v_if_ne h0 d_Te_read_113 rfl (fun h113 => ?_) (fun h113 => absurd h113 (by decide))
        have hst : tSt s n = 0 := by unfold tSt; rw [hT0]; rfl
        have hb0 : tB0 s n = (fun _ => false) := by funext j; unfold tB0; rw [hT0]; rfl
        have hwl : tWl s n = true := by unfold tWl; rw [hst, hb0, q1]; exact decide_eq_true h98
        refine v_vret h0 hC hR d_Te_read_121 ⟨rfl, fun i w1 w2 w3 => by simp only [upR, up2, rdM, w1, w2, w3, if_false], ?_, ?_, ?_, ?_, ?_, ?_⟩
        · rw [up2_r _ _ _ (by omega), rdM_o _ _ _ _ (by omega) (by omega)]; exact hX3_0.1
        · rw [up2_n _ _ (by omega), rdM_t]; exact hX3_0.2.1
        · rw [up2_n _ _ (by omega), rdM_t, pk_un (by omega), up2_n _ _ (by omega), up2_s, hst]
        · rw [up2_s, hwl]; rfl
        · rw [up2_n _ _ (by omega), rdM_t, pk_us]; unfold tNm; rw [if_pos hwl, hst]; exact b_ext (fun i _ => by rw [b_or, b_0, Bool.false_or])
        · intro _; rw [hst, up2_r _ _ _ (by omega), rdM_e]; exact q4
    · skip
      refine v_r1 ?_
      refine v_aload_n h0 d_Te_read_94 1 rfl ?_
      refine g_Te_length h0 hC (by omega) wd_33 d_Te_read_95 ?_
      refine v_int (nI n) (by rw [rdM_t]; exact hX3_0.2.1) ?_
      refine v_icmp_ne h0 d_Te_read_98 rfl (fun h98 => ?_) (fun h98 => absurd h98 (fun z => nI_m1 (by omega) z.symm))
      refine v_iconst h0 d_Te_read_105 (v := nI 0) (by decide) ?_
      refine p_Te_wellFormed h0 hC (by omega) (by decide) wd_37 d_Te_read_106 ?_
      refine v_aload_n h0 d_Te_read_109 1 rfl ?_
      refine g_Te_wellFormed h0 hC (by omega) wd_37 d_Te_read_110 ?_
      refine v_int (nI 0) (up2_s _ _ _ _) ?_
      refine v_if_ne h0 d_Te_read_113 rfl (fun h113 => absurd h113 (by decide)) (fun h113 => ?_)
      refine v_aload_n h0 d_Te_read_116 1 rfl ?_
      refine v_iconst h0 d_Te_read_117 (v := nI 0) (by decide) ?_
      refine p_Te_names h0 hC (by omega) wd_39 d_Te_read_118 ?_
      have hst : tSt s n = 0 := by unfold tSt; rw [hT0]; rfl
      have hb0 : tB0 s n = (fun _ => false) := by funext j; unfold tB0; rw [hT0]; rfl
      have hwl : tWl s n = false := by unfold tWl; rw [hst, hb0, q1]; rfl
      refine v_vret h0 hC hR d_Te_read_121 ⟨rfl, fun i w1 w2 w3 => by simp only [upR, up2, rdM, w1, w2, w3, if_false], ?_, ?_, ?_, ?_, ?_, ?_⟩
      · rw [up2_r _ _ _ (by omega), up2_r _ _ _ (by omega), rdM_o _ _ _ _ (by omega) (by omega)]; exact hX3_0.1
      · rw [up2_n _ _ (by omega), up2_n _ _ (by omega), rdM_t]; exact hX3_0.2.1
      · rw [up2_n _ _ (by omega), up2_n _ _ (by omega), rdM_t, pk_un (by omega), up2_n _ _ (by omega), up2_s, hst]
      · rw [up2_n _ _ (by omega), up2_s, hwl]; rfl
      · rw [up2_s]; unfold tNm; rw [hwl]; rfl
      · intro z; rw [hwl] at z; cases z
  · skip
    have h92 : s 0 = 92 := by unfold sgA at h31; rw [if_pos (by omega)] at h31; exact h31
    refine v_aload_n h0 d_Te_read_34 0 rfl ?_
    refine v_iconst h0 d_Te_read_35 (v := nI 1) (by decide) ?_
    refine v_callV h0 hC (sB_N0 g) (17 + c) (show (17 + c) < 59 by omega) (eB_Te g (by omega) _) rfl (av := [.int (nI 1)]) (rest := []) (m_Te_sign (kl K) g hI (upR (up2 M (17 + c) 2 (nI n)) (27 + c) s) hc (by omega) hX2) wd_197 wd_194 wd_195 wd_196 wd_3 hd_Te_signAt (by omega) (by decide) rfl rfl (Nat.le_of_ble_eq_true rfl) d_Te_read_36 (fun r9 M9 hp9 => ?_)
    obtain ⟨rfl, rfl⟩ := hp9
    refine v_r1 ?_
    refine v_callSN h0 hC (sB_N0 g) (av := [.int (sgA s n 1)]) (rest := []) (m_B_isLocal (kl K) g hI (upR (up2 M (17 + c) 2 (nI n)) (27 + c) s) _) wd_200 wn_23 wd_199 wd_1 hd_B_isLocal (by omega) (by decide) rfl rfl (Nat.le_of_ble_eq_true rfl) d_Te_read_39 (fun r9 M9 hp9 => ?_)
    obtain ⟨rfl, rfl⟩ := hp9
    refine v_r1 ?_
    refine b_if_eq h0 d_Te_read_42 rfl (fun h42 => ?_) (fun h42 => ?_)
    · skip
      have hT0 : tHd s n = false := by unfold tHd; rw [dec_no h42, Bool.and_false]
      refine v_iconst h0 d_Te_read_49 (v := nI 0) (by decide) ?_
      refine v_istore_n h0 d_Te_read_50 (lv' := [(3, .int (nI 0)), (0, .ref (ga g (17 + c))), (1, .ref (ga g 5)), (2, .int (nI n))]) (lt_kn hn (by decide)) rfl ?_
      refine v_aload_n h0 d_Te_read_51 1 rfl ?_
      refine v_iload_n h0 d_Te_read_52 0 rfl ?_
      refine v_if_eq h0 d_Te_read_53 rfl (fun h53 => ?_) (fun h53 => absurd h53 (by decide))
      refine v_iconst h0 d_Te_read_60 (v := nI 0) (by decide) ?_
      refine p_Te_start h0 hC (by omega) wd_34 d_Te_read_61 ?_
      refine v_aload_n h0 d_Te_read_64 1 rfl ?_
      refine v_iconst h0 d_Te_read_65 (v := nI 0) (by decide) ?_
      refine p_Te_names h0 hC (by omega) wd_39 d_Te_read_66 ?_
      refine v_aload_n h0 d_Te_read_69 1 rfl ?_
      refine v_aload_n h0 d_Te_read_70 1 rfl ?_
      refine v_aload_n h0 d_Te_read_71 1 rfl ?_
      refine g_Te_start h0 hC (by omega) wd_34 d_Te_read_72 ?_
      refine v_int (nI 0) (by rw [up2_n _ _ (by omega), up2_s]) ?_
      refine v_iconst h0 d_Te_read_75 (v := nI 0) (by decide) ?_
      refine v_iload_n h0 d_Te_read_76 0 rfl ?_
      refine v_if_eq h0 d_Te_read_77 rfl (fun h77 => ?_) (fun h77 => absurd h77 (by decide))
      refine v_iconst h0 d_Te_read_90 (v := nI 0) (by decide) ?_
      refine v_callV h0 hC (sB_N0 g) (17 + c) (show (17 + c) < 59 by omega) (eB_Te g (by omega) _) rfl (av := [.int (nI 0), .int (nI 0), .int (nI 0)]) (rest := [.ref (ga g (17 + c))]) (rd_all (kl K) g hI 6 (by decide) (up2 (up2 (upR (up2 M (17 + c) 2 (nI n)) (27 + c) s) (17 + c) 3 (nI 0)) (17 + c) 5 (nI 0)) c n 0 s (M (37 + c)) 0 _ (fun _ => false) hc (by omega) hX3_0 BM_0) wd_208 wd_205 wd_207 ws_0 wd_3 hd_Te_readExpression (by omega) (by decide) rfl rfl (Nat.le_of_ble_eq_true rfl) d_Te_read_91 (fun r9 M9 hp9 => ?_)
      obtain ⟨a1, e1, rfl, hq9⟩ := hp9
      rcases hq9 with ⟨q1, rfl, rfl, q4, q5⟩ | ⟨q1, rfl⟩
      · skip
        refine v_r1 ?_
        refine v_aload_n h0 d_Te_read_94 1 rfl ?_
        refine g_Te_length h0 hC (by omega) wd_33 d_Te_read_95 ?_
        refine v_int (nI n) (by rw [rdM_t]; exact hX3_0.2.1) ?_
        refine n_icmp_ne h0 (by have := (OK_ends s n 6 _ _ q1).2; omega) (by omega) d_Te_read_98 rfl (fun h98 => ?_) (fun h98 => ?_)
        · skip
          refine v_iconst h0 d_Te_read_105 (v := nI 0) (by decide) ?_
          refine p_Te_wellFormed h0 hC (by omega) (by decide) wd_37 d_Te_read_106 ?_
          refine v_aload_n h0 d_Te_read_109 1 rfl ?_
          refine g_Te_wellFormed h0 hC (by omega) wd_37 d_Te_read_110 ?_
          refine v_int (nI 0) (up2_s _ _ _ _) ?_
          refine v_if_ne h0 d_Te_read_113 rfl (fun h113 => absurd h113 (by decide)) (fun h113 => ?_)
          refine v_aload_n h0 d_Te_read_116 1 rfl ?_
          refine v_iconst h0 d_Te_read_117 (v := nI 0) (by decide) ?_
          refine p_Te_names h0 hC (by omega) wd_39 d_Te_read_118 ?_
          have hst : tSt s n = 0 := by unfold tSt; rw [hT0]; rfl
          have hb0 : tB0 s n = (fun _ => false) := by funext j; unfold tB0; rw [hT0]; rfl
          have hwl : tWl s n = false := by unfold tWl; rw [hst, hb0, q1]; exact decide_eq_false h98
          refine v_vret h0 hC hR d_Te_read_121 ⟨rfl, fun i w1 w2 w3 => by simp only [upR, up2, rdM, w1, w2, w3, if_false], ?_, ?_, ?_, ?_, ?_, ?_⟩
          · rw [up2_r _ _ _ (by omega), up2_r _ _ _ (by omega), rdM_o _ _ _ _ (by omega) (by omega)]; exact hX3_0.1
          · rw [up2_n _ _ (by omega), up2_n _ _ (by omega), rdM_t]; exact hX3_0.2.1
          · rw [up2_n _ _ (by omega), up2_n _ _ (by omega), rdM_t, pk_un (by omega), up2_n _ _ (by omega), up2_s, hst]
          · rw [up2_n _ _ (by omega), up2_s, hwl]; rfl
          · rw [up2_s]; unfold tNm; rw [hwl]; rfl
          · intro z; rw [hwl] at z; cases z
        · skip
          refine v_iconst h0 d_Te_read_101 (v := nI 1) (by decide) ?_
          refine v_goto h0 d_Te_read_102 rfl ?_
          refine p_Te_wellFormed h0 hC (by omega) (by decide) wd_37 d_Te_read_106 ?_
          refine v_aload_n h0 d_Te_read_109 1 rfl ?_
          refine g_Te_wellFormed h0 hC (by omega) wd_37 d_Te_read_110 ?_
          refine v_int (nI 1) (up2_s _ _ _ _) ?_
          refine v_if_ne h0 d_Te_read_113 rfl (fun h113 => ?_) (fun h113 => absurd h113 (by decide))
          have hst : tSt s n = 0 := by unfold tSt; rw [hT0]; rfl
          have hb0 : tB0 s n = (fun _ => false) := by funext j; unfold tB0; rw [hT0]; rfl
          have hwl : tWl s n = true := by unfold tWl; rw [hst, hb0, q1]; exact decide_eq_true h98
          refine v_vret h0 hC hR d_Te_read_121 ⟨rfl, fun i w1 w2 w3 => by simp only [upR, up2, rdM, w1, w2, w3, if_false], ?_, ?_, ?_, ?_, ?_, ?_⟩
          · rw [up2_r _ _ _ (by omega), rdM_o _ _ _ _ (by omega) (by omega)]; exact hX3_0.1
          · rw [up2_n _ _ (by omega), rdM_t]; exact hX3_0.2.1
          · rw [up2_n _ _ (by omega), rdM_t, pk_un (by omega), up2_n _ _ (by omega), up2_s, hst]
          · rw [up2_s, hwl]; rfl
          · rw [up2_n _ _ (by omega), rdM_t, pk_us]; unfold tNm; rw [if_pos hwl, hst]; exact b_ext (fun i _ => by rw [b_or, b_0, Bool.false_or])
          · intro _; rw [hst, up2_r _ _ _ (by omega), rdM_e]; exact q4
      · skip
        refine v_r1 ?_
        refine v_aload_n h0 d_Te_read_94 1 rfl ?_
        refine g_Te_length h0 hC (by omega) wd_33 d_Te_read_95 ?_
        refine v_int (nI n) (by rw [rdM_t]; exact hX3_0.2.1) ?_
        refine v_icmp_ne h0 d_Te_read_98 rfl (fun h98 => ?_) (fun h98 => absurd h98 (fun z => nI_m1 (by omega) z.symm))
        refine v_iconst h0 d_Te_read_105 (v := nI 0) (by decide) ?_
        refine p_Te_wellFormed h0 hC (by omega) (by decide) wd_37 d_Te_read_106 ?_
        refine v_aload_n h0 d_Te_read_109 1 rfl ?_
        refine g_Te_wellFormed h0 hC (by omega) wd_37 d_Te_read_110 ?_
        refine v_int (nI 0) (up2_s _ _ _ _) ?_
        refine v_if_ne h0 d_Te_read_113 rfl (fun h113 => absurd h113 (by decide)) (fun h113 => ?_)
        refine v_aload_n h0 d_Te_read_116 1 rfl ?_
        refine v_iconst h0 d_Te_read_117 (v := nI 0) (by decide) ?_
        refine p_Te_names h0 hC (by omega) wd_39 d_Te_read_118 ?_
        have hst : tSt s n = 0 := by unfold tSt; rw [hT0]; rfl
        have hb0 : tB0 s n = (fun _ => false) := by funext j; unfold tB0; rw [hT0]; rfl
        have hwl : tWl s n = false := by unfold tWl; rw [hst, hb0, q1]; rfl
        refine v_vret h0 hC hR d_Te_read_121 ⟨rfl, fun i w1 w2 w3 => by simp only [upR, up2, rdM, w1, w2, w3, if_false], ?_, ?_, ?_, ?_, ?_, ?_⟩
        · rw [up2_r _ _ _ (by omega), up2_r _ _ _ (by omega), rdM_o _ _ _ _ (by omega) (by omega)]; exact hX3_0.1
        · rw [up2_n _ _ (by omega), up2_n _ _ (by omega), rdM_t]; exact hX3_0.2.1
        · rw [up2_n _ _ (by omega), up2_n _ _ (by omega), rdM_t, pk_un (by omega), up2_n _ _ (by omega), up2_s, hst]
        · rw [up2_n _ _ (by omega), up2_s, hwl]; rfl
        · rw [up2_s]; unfold tNm; rw [hwl]; rfl
        · intro z; rw [hwl] at z; cases z
    · skip
      obtain ⟨h1n, hse1⟩ := kd_sg (by decide) (kdB_t h42)
      have h9 : kd (s 1) = 9 := by rw [← hse1]; exact kdB_t h42
      have hT1 : tHd s n = true := by unfold tHd; rw [decide_eq_true h92, decide_eq_true h1n, decide_eq_true h9]; rfl
      have hl6 := lc_of h9
      have hbm : BM (nI 1 <<< (nI (lcI (s 1)) &&& 31)) (fun j => decide (j = lcI (s 1))) := fun j hj => b_bit (by omega) (by omega)
      refine v_iconst h0 d_Te_read_45 (v := nI 1) (by decide) ?_
      refine v_goto h0 d_Te_read_46 rfl ?_
      refine v_istore_n h0 d_Te_read_50 (lv' := [(3, .int (nI 1)), (0, .ref (ga g (17 + c))), (1, .ref (ga g 5)), (2, .int (nI n))]) (lt_kn hn (by decide)) rfl ?_
      refine v_aload_n h0 d_Te_read_51 1 rfl ?_
      refine v_iload_n h0 d_Te_read_52 0 rfl ?_
      refine v_if_eq h0 d_Te_read_53 rfl (fun h53 => absurd h53 (by decide)) (fun h53 => ?_)
      refine v_iconst h0 d_Te_read_56 (v := nI 2) (by decide) ?_
      refine v_goto h0 d_Te_read_57 rfl ?_
      refine p_Te_start h0 hC (by omega) wd_34 d_Te_read_61 ?_
      refine v_aload_n h0 d_Te_read_64 1 rfl ?_
      refine v_iconst h0 d_Te_read_65 (v := nI 0) (by decide) ?_
      refine p_Te_names h0 hC (by omega) wd_39 d_Te_read_66 ?_
      refine v_aload_n h0 d_Te_read_69 1 rfl ?_
      refine v_aload_n h0 d_Te_read_70 1 rfl ?_
      refine v_aload_n h0 d_Te_read_71 1 rfl ?_
      refine g_Te_start h0 hC (by omega) wd_34 d_Te_read_72 ?_
      refine v_int (nI 2) (by rw [up2_n _ _ (by omega), up2_s]) ?_
      refine v_iconst h0 d_Te_read_75 (v := nI 0) (by decide) ?_
      refine v_iload_n h0 d_Te_read_76 0 rfl ?_
      refine v_if_eq h0 d_Te_read_77 rfl (fun h77 => absurd h77 (by decide)) (fun h77 => ?_)
      refine v_iconst h0 d_Te_read_80 (v := nI 1) (by decide) ?_
      refine v_aload_n h0 d_Te_read_81 1 rfl ?_
      refine v_iconst h0 d_Te_read_82 (v := nI 1) (by decide) ?_
      refine v_callV h0 hC (sB_N0 g) (17 + c) (show (17 + c) < 59 by omega) (eB_Te g (by omega) _) rfl (av := [.int (nI 1)]) (rest := [.int (nI 1), .int (nI 0), .int (nI 2), .ref (ga g (17 + c)), .ref (ga g (17 + c))]) (m_Te_localAt (kl K) g hI (up2 (up2 (upR (up2 M (17 + c) 2 (nI n)) (27 + c) s) (17 + c) 3 (nI 2)) (17 + c) 5 (nI 0)) hc hn24 h1n hX3_2.2.1 (by rw [hX3_2.1]; exact hs) (by rw [hX3_2.1]; exact h9)) wd_204 wd_201 wd_202 wd_203 wd_3 hd_Te_localAt (by omega) (by decide) rfl rfl (Nat.le_of_ble_eq_true rfl) d_Te_read_83 (fun r9 M9 hp9 => ?_)
      obtain ⟨rfl, rfl⟩ := hp9
      refine v_r1 ?_
      refine v_int (nI (lcI (s 1))) (by rw [hX3_2.1]) ?_
      refine v_ishl h0 d_Te_read_86 ?_
      refine v_goto h0 d_Te_read_87 rfl ?_
      refine v_callV h0 hC (sB_N0 g) (17 + c) (show (17 + c) < 59 by omega) (eB_Te g (by omega) _) rfl (av := [.int (nI 2), .int (nI 0), .int ((nI 1) <<< ((nI (lcI (s 1))) &&& 31))]) (rest := [.ref (ga g (17 + c))]) (rd_all (kl K) g hI 6 (by decide) (up2 (up2 (upR (up2 M (17 + c) 2 (nI n)) (27 + c) s) (17 + c) 3 (nI 2)) (17 + c) 5 (nI 0)) c n 2 s (M (37 + c)) 0 _ (fun j => decide (j = lcI (s 1))) hc (by omega) hX3_2 hbm) wd_208 wd_205 wd_207 ws_0 wd_3 hd_Te_readExpression (by omega) (by decide) rfl rfl (Nat.le_of_ble_eq_true rfl) d_Te_read_91 (fun r9 M9 hp9 => ?_)
      obtain ⟨a1, e1, rfl, hq9⟩ := hp9
      rcases hq9 with ⟨q1, rfl, rfl, q4, q5⟩ | ⟨q1, rfl⟩
      · skip
        refine v_r1 ?_
        refine v_aload_n h0 d_Te_read_94 1 rfl ?_
        refine g_Te_length h0 hC (by omega) wd_33 d_Te_read_95 ?_
        refine v_int (nI n) (by rw [rdM_t]; exact hX3_2.2.1) ?_
        refine n_icmp_ne h0 (by have := (OK_ends s n 6 _ _ q1).2; omega) (by omega) d_Te_read_98 rfl (fun h98 => ?_) (fun h98 => ?_)
        · skip
          refine v_iconst h0 d_Te_read_105 (v := nI 0) (by decide) ?_
          refine p_Te_wellFormed h0 hC (by omega) (by decide) wd_37 d_Te_read_106 ?_
          refine v_aload_n h0 d_Te_read_109 1 rfl ?_
          refine g_Te_wellFormed h0 hC (by omega) wd_37 d_Te_read_110 ?_
          refine v_int (nI 0) (up2_s _ _ _ _) ?_
          refine v_if_ne h0 d_Te_read_113 rfl (fun h113 => absurd h113 (by decide)) (fun h113 => ?_)
          refine v_aload_n h0 d_Te_read_116 1 rfl ?_
          refine v_iconst h0 d_Te_read_117 (v := nI 0) (by decide) ?_
          refine p_Te_names h0 hC (by omega) wd_39 d_Te_read_118 ?_
          have hst : tSt s n = 2 := by unfold tSt; rw [hT1]; rfl
          have hb0 : tB0 s n = (fun j => decide (j = lcI (s 1))) := by funext j; unfold tB0; rw [hT1]; rfl
          have hwl : tWl s n = false := by unfold tWl; rw [hst, hb0, q1]; exact decide_eq_false h98
          refine v_vret h0 hC hR d_Te_read_121 ⟨rfl, fun i w1 w2 w3 => by simp only [upR, up2, rdM, w1, w2, w3, if_false], ?_, ?_, ?_, ?_, ?_, ?_⟩
          · rw [up2_r _ _ _ (by omega), up2_r _ _ _ (by omega), rdM_o _ _ _ _ (by omega) (by omega)]; exact hX3_2.1
          · rw [up2_n _ _ (by omega), up2_n _ _ (by omega), rdM_t]; exact hX3_2.2.1
          · rw [up2_n _ _ (by omega), up2_n _ _ (by omega), rdM_t, pk_un (by omega), up2_n _ _ (by omega), up2_s, hst]
          · rw [up2_n _ _ (by omega), up2_s, hwl]; rfl
          · rw [up2_s]; unfold tNm; rw [hwl]; rfl
          · intro z; rw [hwl] at z; cases z
        · skip
          refine v_iconst h0 d_Te_read_101 (v := nI 1) (by decide) ?_
          refine v_goto h0 d_Te_read_102 rfl ?_
          refine p_Te_wellFormed h0 hC (by omega) (by decide) wd_37 d_Te_read_106 ?_
          refine v_aload_n h0 d_Te_read_109 1 rfl ?_
          refine g_Te_wellFormed h0 hC (by omega) wd_37 d_Te_read_110 ?_
          refine v_int (nI 1) (up2_s _ _ _ _) ?_
          refine v_if_ne h0 d_Te_read_113 rfl (fun h113 => ?_) (fun h113 => absurd h113 (by decide))
          have hst : tSt s n = 2 := by unfold tSt; rw [hT1]; rfl
          have hb0 : tB0 s n = (fun j => decide (j = lcI (s 1))) := by funext j; unfold tB0; rw [hT1]; rfl
          have hwl : tWl s n = true := by unfold tWl; rw [hst, hb0, q1]; exact decide_eq_true h98
          refine v_vret h0 hC hR d_Te_read_121 ⟨rfl, fun i w1 w2 w3 => by simp only [upR, up2, rdM, w1, w2, w3, if_false], ?_, ?_, ?_, ?_, ?_, ?_⟩
          · rw [up2_r _ _ _ (by omega), rdM_o _ _ _ _ (by omega) (by omega)]; exact hX3_2.1
          · rw [up2_n _ _ (by omega), rdM_t]; exact hX3_2.2.1
          · rw [up2_n _ _ (by omega), rdM_t, pk_un (by omega), up2_n _ _ (by omega), up2_s, hst]
          · rw [up2_s, hwl]; rfl
          · rw [up2_n _ _ (by omega), rdM_t, pk_us]; unfold tNm; rw [if_pos hwl, hst]; exact b_ext (fun i _ => by rw [b_or, b_0, Bool.false_or])
          · intro _; rw [hst, up2_r _ _ _ (by omega), rdM_e]; exact q4
      · skip
        refine v_r1 ?_
        refine v_aload_n h0 d_Te_read_94 1 rfl ?_
        refine g_Te_length h0 hC (by omega) wd_33 d_Te_read_95 ?_
        refine v_int (nI n) (by rw [rdM_t]; exact hX3_2.2.1) ?_
        refine v_icmp_ne h0 d_Te_read_98 rfl (fun h98 => ?_) (fun h98 => absurd h98 (fun z => nI_m1 (by omega) z.symm))
        refine v_iconst h0 d_Te_read_105 (v := nI 0) (by decide) ?_
        refine p_Te_wellFormed h0 hC (by omega) (by decide) wd_37 d_Te_read_106 ?_
        refine v_aload_n h0 d_Te_read_109 1 rfl ?_
        refine g_Te_wellFormed h0 hC (by omega) wd_37 d_Te_read_110 ?_
        refine v_int (nI 0) (up2_s _ _ _ _) ?_
        refine v_if_ne h0 d_Te_read_113 rfl (fun h113 => absurd h113 (by decide)) (fun h113 => ?_)
        refine v_aload_n h0 d_Te_read_116 1 rfl ?_
        refine v_iconst h0 d_Te_read_117 (v := nI 0) (by decide) ?_
        refine p_Te_names h0 hC (by omega) wd_39 d_Te_read_118 ?_
        have hst : tSt s n = 2 := by unfold tSt; rw [hT1]; rfl
        have hb0 : tB0 s n = (fun j => decide (j = lcI (s 1))) := by funext j; unfold tB0; rw [hT1]; rfl
        have hwl : tWl s n = false := by unfold tWl; rw [hst, hb0, q1]; rfl
        refine v_vret h0 hC hR d_Te_read_121 ⟨rfl, fun i w1 w2 w3 => by simp only [upR, up2, rdM, w1, w2, w3, if_false], ?_, ?_, ?_, ?_, ?_, ?_⟩
        · rw [up2_r _ _ _ (by omega), up2_r _ _ _ (by omega), rdM_o _ _ _ _ (by omega) (by omega)]; exact hX3_2.1
        · rw [up2_n _ _ (by omega), up2_n _ _ (by omega), rdM_t]; exact hX3_2.2.1
        · rw [up2_n _ _ (by omega), up2_n _ _ (by omega), rdM_t, pk_un (by omega), up2_n _ _ (by omega), up2_s, hst]
        · rw [up2_n _ _ (by omega), up2_s, hwl]; rfl
        · rw [up2_s]; unfold tNm; rw [hwl]; rfl
        · intro z; rw [hwl] at z; cases z
end
section
/-! TYPES (the book) -/
def dvN (x : Int32) : Nat := x.toNatClampNeg - 1
theorem dvN_c {c : Nat} (hc : c < 10) : dvN (nI (c + 1)) = c := by unfold dvN; rw [nI_clamp (by omega)]; omega
def tnM (M : Me) (j : Nat) : Int32 := if M 2 j = 0 then 0 else if fuB M (dvN (M 2 j)) = true then 0 else M (7 + dvN (M 2 j)) 6
def fnM (M : Me) (j : Nat) : Bool := if M 2 j = 0 then false else fuB M (dvN (M 2 j))
/-- the definers are null or cells -/
def DV (M : Me) : Prop := ∀ j, j < 10 → M 2 j = 0 ∨ ∃ c, c < 10 ∧ M 2 j = nI (c + 1)
theorem OK_lt {s : Nat → Int32} {n d : Nat} {b : Nat → Bool} {k : Nat} (h : OK s n d b k = true) : k < n := by
  cases d with
  | zero => simp [OK] at h
  | succ d => exact OK_k h
theorem EO_k {s e : Nat → Int32} {n d : Nat} {b : Nat → Bool} {k : Nat} (h : OK s n d b k = true) (ho : EO s e d k) : e k = nI (EN s d k) := by
  cases d with
  | zero => simp [OK] at h
  | succ d => exact ho.1
theorem m_Te_end (l : Launch) (g : Gd) (hI : sI (sB g)) (M : Me) {c n k d : Nat} {s e : Nat → Int32} {a : Int32} {b : Nat → Bool} (hc : c < 10) (hT : TX M c s n a e) (ok : OK s n d b k = true) (eo : EO s e d k) : CB l g y_Te_endOf c_Te_endOf 2 (some .int) 1 [.ref (ga g (17 + c)), .int (nI k)] M (fun r M' => r = some (.int (nI (EN s d k))) ∧ M = M') := by
  have e1 := EO_k ok eo
  obtain ⟨rfl, hl, rfl, rfl, hch, hn24⟩ := hT
  rw [← e1]
  exact m_Te_endOf l g hI M hc hn24 (OK_lt ok) hl
def TD (l : Launch) (g : Gd) (d : Nat) : Prop := ∀ (M : Me) (c n k : Nat) (s e : Nat → Int32) (a : Int32) (b : Nat → Bool), c < 10 → TX M c s n a e → DV M → OK s n d b k = true → EO s e d k →
  CB l g y_Ty_ofExpression c_Ty_ofExpression 4 (some .int) (2 * d + 4) [.ref (ga g 2), .ref (ga g (17 + c)), .int (nI k), .int (nI (6 - d))] M (fun r M' => r = some (.int (TY s (tnM M) (fnM M) d k)) ∧ M = M')
set_option maxHeartbeats 4000000 in
theorem m_Ty_areBoth (l : Launch) (g : Gd) (hI : sI (sB g)) (M : Me) {c n k d : Nat} {s e : Nat → Int32} {a : Int32} {b : Nat → Bool} (hc : c < 10) (hd : d + 1 ≤ 6) (hT : TX M c s n a e) (hDV : DV M) (hTD : TD l g d) (x : Int32) (ok1 : OK s n d b (k + 1) = true) (eo1 : EO s e d (k + 1)) (ok2 : OK s n d b (EN s d (k + 1)) = true) (eo2 : EO s e d (EN s d (k + 1))) : CB l g y_Ty_areBoth c_Ty_areBoth 6 (some .boolean) (2 * d + 5) [.int x, .ref (ga g 2), .ref (ga g (17 + c)), .int (nI k), .int (nI (6 - (d + 1)))] M (fun r M' => r = some (.int (bI (decide (TY s (tnM M) (fnM M) d (k + 1) = x ∧ TY s (tnM M) (fnM M) d (EN s d (k + 1)) = x)))) ∧ M = M') := by
  have hn24 : n ≤ 24 := hT.2.2.2.2.2
  have hk24 := OK_lt ok1
  refine Ct.of hI (sB_N0 g) rfl (Nat.le_of_ble_eq_true rfl) (fun K h0 hC hR hkl hn => ?_)
  have hC : Cx (sB g) K gC_Ty _ := hC
  show V K (wp (sB g)) M 0 [(0, .int x), (1, .ref (ga g 2)), (2, .ref (ga g (17 + c))), (3, .int (nI k)), (4, .int (nI (6 - (d + 1))))] []
  subst hkl
  refine v_aload_n h0 d_Ty_areBoth_0 2 rfl ?_
  refine v_iload_n h0 d_Ty_areBoth_1 3 rfl ?_
  refine v_iconst h0 d_Ty_areBoth_2 (v := nI 1) (by decide) ?_
  refine v_iadd h0 d_Ty_areBoth_3 ?_
  refine v_int (nI (k + 1)) (nI_add k 1) ?_
  refine v_callV h0 hC (sB_N0 g) (17 + c) (show (17 + c) < 59 by omega) (eB_Te g (by omega) _) rfl (av := [.int (nI (k + 1))]) (rest := []) (m_Te_end (kl K) g hI M hc hT ok1 eo1) wd_337 wd_334 wd_335 wd_336 wd_3 hd_Te_endOf (by omega) (by decide) rfl rfl (Nat.le_of_ble_eq_true rfl) d_Ty_areBoth_4 (fun r9 M9 hp9 => ?_)
  obtain ⟨rfl, rfl⟩ := hp9
  refine v_r1 ?_
  refine v_istore h0 d_Ty_areBoth_7 (lv' := [(5, .int (nI (EN s d (k + 1)))), (0, .int x), (1, .ref (ga g 2)), (2, .ref (ga g (17 + c))), (3, .int (nI k)), (4, .int (nI (6 - (d + 1))))]) (lt_kn hn (by decide)) rfl ?_
  refine v_aload_n h0 d_Ty_areBoth_9 2 rfl ?_
  refine v_aload_n h0 d_Ty_areBoth_10 3 rfl ?_
  refine v_iload_n h0 d_Ty_areBoth_11 4 rfl ?_
  refine v_iconst h0 d_Ty_areBoth_12 (v := nI 1) (by decide) ?_
  refine v_iadd h0 d_Ty_areBoth_13 ?_
  refine v_int (nI (k + 1)) (nI_add k 1) ?_
  refine v_iload h0 d_Ty_areBoth_14 5 rfl ?_
  refine v_iconst h0 d_Ty_areBoth_16 (v := nI 1) (by decide) ?_
  refine v_iadd h0 d_Ty_areBoth_17 ?_
  refine v_int (nI (6 - (d + 1) + 1)) (nI_add (6 - (d + 1)) 1) ?_
  refine v_int (nI (6 - d)) (sub_lev hd) ?_
  refine v_callS h0 hC (sB_N0 g) (av := [.ref (ga g 2), .ref (ga g (17 + c)), .int (nI (k + 1)), .int (nI (6 - d))]) (rest := []) (hTD M c n (k + 1) s e a _ hc hT hDV ok1 eo1) wd_329 wd_327 wd_328 wd_9 hd_Ty_ofExpression (by omega) (by decide) rfl rfl (Nat.le_of_ble_eq_true rfl) d_Ty_areBoth_18 (fun r9 M9 hp9 => ?_)
  obtain ⟨rfl, rfl⟩ := hp9
  refine v_r1 ?_
  refine v_iload_n h0 d_Ty_areBoth_21 1 rfl ?_
  refine v_icmp_ne h0 d_Ty_areBoth_22 rfl (fun h22 => ?_) (fun h22 => ?_)
  · skip
    refine v_iconst h0 d_Ty_areBoth_44 (v := nI 0) (by decide) ?_
    exact v_zret h0 hC hR (rfl) d_Ty_areBoth_45 (⟨ret_f (decide_eq_false (fun q => h22 q.1)), rfl⟩)
  · skip
    refine v_aload_n h0 d_Ty_areBoth_25 2 rfl ?_
    refine v_aload_n h0 d_Ty_areBoth_26 3 rfl ?_
    refine v_iload h0 d_Ty_areBoth_27 0 rfl ?_
    refine v_iload h0 d_Ty_areBoth_29 5 rfl ?_
    refine v_iconst h0 d_Ty_areBoth_31 (v := nI 1) (by decide) ?_
    refine v_iadd h0 d_Ty_areBoth_32 ?_
    refine v_int (nI (6 - (d + 1) + 1)) (nI_add (6 - (d + 1)) 1) ?_
    refine v_int (nI (6 - d)) (sub_lev hd) ?_
    refine v_callS h0 hC (sB_N0 g) (av := [.ref (ga g 2), .ref (ga g (17 + c)), .int (nI (EN s d (k + 1))), .int (nI (6 - d))]) (rest := []) (hTD M c n (EN s d (k + 1)) s e a _ hc hT hDV ok2 eo2) wd_329 wd_327 wd_328 wd_9 hd_Ty_ofExpression (by omega) (by decide) rfl rfl (Nat.le_of_ble_eq_true rfl) d_Ty_areBoth_33 (fun r9 M9 hp9 => ?_)
    obtain ⟨rfl, rfl⟩ := hp9
    refine v_r1 ?_
    refine v_iload_n h0 d_Ty_areBoth_36 1 rfl ?_
    refine v_icmp_ne h0 d_Ty_areBoth_37 rfl (fun h37 => ?_) (fun h37 => ?_)
    · skip
      refine v_iconst h0 d_Ty_areBoth_44 (v := nI 0) (by decide) ?_
      exact v_zret h0 hC hR (rfl) d_Ty_areBoth_45 (⟨ret_f (decide_eq_false (fun q => h37 q.2)), rfl⟩)
    · skip
      refine v_iconst h0 d_Ty_areBoth_40 (v := nI 1) (by decide) ?_
      refine v_goto h0 d_Ty_areBoth_41 rfl ?_
      exact v_zret h0 hC hR (rfl) d_Ty_areBoth_45 (⟨ret_t (decide_eq_true ⟨h22, h37⟩), rfl⟩)
set_option maxHeartbeats 4000000 in
theorem m_Ty_ofChoice (l : Launch) (g : Gd) (hI : sI (sB g)) (M : Me) {c n k d : Nat} {s e : Nat → Int32} {a : Int32} {b : Nat → Bool} (hc : c < 10) (hd : d + 1 ≤ 6) (hT : TX M c s n a e) (hDV : DV M) (hTD : TD l g d) (ok1 : OK s n d b (k + 1) = true) (eo1 : EO s e d (k + 1)) (ok2 : OK s n d b (EN s d (k + 1)) = true) (eo2 : EO s e d (EN s d (k + 1))) (ok3 : OK s n d b (EN s d (EN s d (k + 1))) = true) (eo3 : EO s e d (EN s d (EN s d (k + 1)))) : CB l g y_Ty_ofChoice c_Ty_ofChoice 7 (some .int) (2 * d + 5) [.ref (ga g 2), .ref (ga g (17 + c)), .int (nI k), .int (nI (6 - (d + 1)))] M (fun r M' => r = some (.int (if TY s (tnM M) (fnM M) d (k + 1) = 2 ∧ TY s (tnM M) (fnM M) d (EN s d (k + 1)) = TY s (tnM M) (fnM M) d (EN s d (EN s d (k + 1))) then TY s (tnM M) (fnM M) d (EN s d (k + 1)) else 0)) ∧ M = M') := by
  have hn24 : n ≤ 24 := hT.2.2.2.2.2
  have hk24 := OK_lt ok1
  refine Ct.of hI (sB_N0 g) rfl (Nat.le_of_ble_eq_true rfl) (fun K h0 hC hR hkl hn => ?_)
  have hC : Cx (sB g) K gC_Ty _ := hC
  show V K (wp (sB g)) M 0 [(0, .ref (ga g 2)), (1, .ref (ga g (17 + c))), (2, .int (nI k)), (3, .int (nI (6 - (d + 1))))] []
  subst hkl
  refine v_aload_n h0 d_Ty_ofChoice_0 1 rfl ?_
  refine v_iload_n h0 d_Ty_ofChoice_1 2 rfl ?_
  refine v_iconst h0 d_Ty_ofChoice_2 (v := nI 1) (by decide) ?_
  refine v_iadd h0 d_Ty_ofChoice_3 ?_
  refine v_int (nI (k + 1)) (nI_add k 1) ?_
  refine v_callV h0 hC (sB_N0 g) (17 + c) (show (17 + c) < 59 by omega) (eB_Te g (by omega) _) rfl (av := [.int (nI (k + 1))]) (rest := []) (m_Te_end (kl K) g hI M hc hT ok1 eo1) wd_337 wd_334 wd_335 wd_336 wd_3 hd_Te_endOf (by omega) (by decide) rfl rfl (Nat.le_of_ble_eq_true rfl) d_Ty_ofChoice_4 (fun r9 M9 hp9 => ?_)
  obtain ⟨rfl, rfl⟩ := hp9
  refine v_r1 ?_
  refine v_istore h0 d_Ty_ofChoice_7 (lv' := [(4, .int (nI (EN s d (k + 1)))), (0, .ref (ga g 2)), (1, .ref (ga g (17 + c))), (2, .int (nI k)), (3, .int (nI (6 - (d + 1))))]) (lt_kn hn (by decide)) rfl ?_
  refine v_aload_n h0 d_Ty_ofChoice_9 2 rfl ?_
  refine v_iload h0 d_Ty_ofChoice_10 0 rfl ?_
  refine v_callV h0 hC (sB_N0 g) (17 + c) (show (17 + c) < 59 by omega) (eB_Te g (by omega) _) rfl (av := [.int (nI (EN s d (k + 1)))]) (rest := []) (m_Te_end (kl K) g hI M hc hT ok2 eo2) wd_337 wd_334 wd_335 wd_336 wd_3 hd_Te_endOf (by omega) (by decide) rfl rfl (Nat.le_of_ble_eq_true rfl) d_Ty_ofChoice_12 (fun r9 M9 hp9 => ?_)
  obtain ⟨rfl, rfl⟩ := hp9
  refine v_r1 ?_
  refine v_istore h0 d_Ty_ofChoice_15 (lv' := [(5, .int (nI (EN s d (EN s d (k + 1))))), (4, .int (nI (EN s d (k + 1)))), (0, .ref (ga g 2)), (1, .ref (ga g (17 + c))), (2, .int (nI k)), (3, .int (nI (6 - (d + 1))))]) (lt_kn hn (by decide)) rfl ?_
  refine v_aload_n h0 d_Ty_ofChoice_17 2 rfl ?_
  refine v_aload_n h0 d_Ty_ofChoice_18 3 rfl ?_
  refine v_iload_n h0 d_Ty_ofChoice_19 4 rfl ?_
  refine v_iconst h0 d_Ty_ofChoice_20 (v := nI 1) (by decide) ?_
  refine v_iadd h0 d_Ty_ofChoice_21 ?_
  refine v_int (nI (k + 1)) (nI_add k 1) ?_
  refine v_iload_n h0 d_Ty_ofChoice_22 5 rfl ?_
  refine v_iconst h0 d_Ty_ofChoice_23 (v := nI 1) (by decide) ?_
  refine v_iadd h0 d_Ty_ofChoice_24 ?_
  refine v_int (nI (6 - (d + 1) + 1)) (nI_add (6 - (d + 1)) 1) ?_
  refine v_int (nI (6 - d)) (sub_lev hd) ?_
  refine v_callS h0 hC (sB_N0 g) (av := [.ref (ga g 2), .ref (ga g (17 + c)), .int (nI (k + 1)), .int (nI (6 - d))]) (rest := []) (hTD M c n (k + 1) s e a _ hc hT hDV ok1 eo1) wd_329 wd_327 wd_328 wd_9 hd_Ty_ofExpression (by omega) (by decide) rfl rfl (Nat.le_of_ble_eq_true rfl) d_Ty_ofChoice_25 (fun r9 M9 hp9 => ?_)
  obtain ⟨rfl, rfl⟩ := hp9
  refine v_r1 ?_
  refine v_iconst h0 d_Ty_ofChoice_28 (v := nI 2) (by decide) ?_
  refine v_icmp_eq h0 d_Ty_ofChoice_29 rfl (fun h29 => ?_) (fun h29 => ?_)
  · skip
    refine v_aload_n h0 d_Ty_ofChoice_34 2 rfl ?_
    refine v_aload_n h0 d_Ty_ofChoice_35 3 rfl ?_
    refine v_iload h0 d_Ty_ofChoice_36 1 rfl ?_
    refine v_iload_n h0 d_Ty_ofChoice_38 5 rfl ?_
    refine v_iconst h0 d_Ty_ofChoice_39 (v := nI 1) (by decide) ?_
    refine v_iadd h0 d_Ty_ofChoice_40 ?_
    refine v_int (nI (6 - (d + 1) + 1)) (nI_add (6 - (d + 1)) 1) ?_
    refine v_int (nI (6 - d)) (sub_lev hd) ?_
    refine v_callS h0 hC (sB_N0 g) (av := [.ref (ga g 2), .ref (ga g (17 + c)), .int (nI (EN s d (k + 1))), .int (nI (6 - d))]) (rest := []) (hTD M c n (EN s d (k + 1)) s e a _ hc hT hDV ok2 eo2) wd_329 wd_327 wd_328 wd_9 hd_Ty_ofExpression (by omega) (by decide) rfl rfl (Nat.le_of_ble_eq_true rfl) d_Ty_ofChoice_41 (fun r9 M9 hp9 => ?_)
    obtain ⟨rfl, rfl⟩ := hp9
    refine v_r1 ?_
    refine v_istore h0 d_Ty_ofChoice_44 (lv' := [(6, .int (TY s (tnM M) (fnM M) d (EN s d (k + 1)))), (5, .int (nI (EN s d (EN s d (k + 1))))), (4, .int (nI (EN s d (k + 1)))), (0, .ref (ga g 2)), (1, .ref (ga g (17 + c))), (2, .int (nI k)), (3, .int (nI (6 - (d + 1))))]) (lt_kn hn (by decide)) rfl ?_
    refine v_aload_n h0 d_Ty_ofChoice_46 3 rfl ?_
    refine v_aload_n h0 d_Ty_ofChoice_47 4 rfl ?_
    refine v_iload h0 d_Ty_ofChoice_48 1 rfl ?_
    refine v_iload_n h0 d_Ty_ofChoice_50 6 rfl ?_
    refine v_iconst h0 d_Ty_ofChoice_51 (v := nI 1) (by decide) ?_
    refine v_iadd h0 d_Ty_ofChoice_52 ?_
    refine v_int (nI (6 - (d + 1) + 1)) (nI_add (6 - (d + 1)) 1) ?_
    refine v_int (nI (6 - d)) (sub_lev hd) ?_
    refine v_callS h0 hC (sB_N0 g) (av := [.ref (ga g 2), .ref (ga g (17 + c)), .int (nI (EN s d (EN s d (k + 1)))), .int (nI (6 - d))]) (rest := []) (hTD M c n (EN s d (EN s d (k + 1))) s e a _ hc hT hDV ok3 eo3) wd_329 wd_327 wd_328 wd_9 hd_Ty_ofExpression (by omega) (by decide) rfl rfl (Nat.le_of_ble_eq_true rfl) d_Ty_ofChoice_53 (fun r9 M9 hp9 => ?_)
    obtain ⟨rfl, rfl⟩ := hp9
    refine v_r1 ?_
    refine v_iload h0 d_Ty_ofChoice_56 0 rfl ?_
    refine v_icmp_ne h0 d_Ty_ofChoice_58 rfl (fun h58 => ?_) (fun h58 => ?_)
    · skip
      refine v_iconst h0 d_Ty_ofChoice_66 (v := nI 0) (by decide) ?_
      exact v_iret h0 hC hR d_Ty_ofChoice_67 (⟨by rw [if_neg (fun q => h58 q.2.symm)]; rfl, rfl⟩)
    · skip
      refine v_iload h0 d_Ty_ofChoice_61 0 rfl ?_
      refine v_goto h0 d_Ty_ofChoice_63 rfl ?_
      exact v_iret h0 hC hR d_Ty_ofChoice_67 (⟨by rw [if_pos ⟨h29, h58.symm⟩], rfl⟩)
  · skip
    refine v_iconst h0 d_Ty_ofChoice_32 (v := nI 0) (by decide) ?_
    exact v_iret h0 hC hR d_Ty_ofChoice_33 (⟨by rw [if_neg (fun q => h29 q.1)]; rfl, rfl⟩)
set_option maxHeartbeats 4000000 in
theorem m_Ty_ofBinding (l : Launch) (g : Gd) (hI : sI (sB g)) (M : Me) {c n k d : Nat} {s e : Nat → Int32} {a : Int32} {b : Nat → Bool} (hc : c < 10) (hd : d + 1 ≤ 6) (hT : TX M c s n a e) (hDV : DV M) (hTD : TD l g d) {b2 : Nat → Bool} (ok1 : OK s n d b (k + 2) = true) (eo1 : EO s e d (k + 2)) (ok2 : OK s n d b2 (EN s d (k + 2)) = true) (eo2 : EO s e d (EN s d (k + 2))) : CB l g y_Ty_ofBinding c_Ty_ofBinding 5 (some .int) (2 * d + 5) [.ref (ga g 2), .ref (ga g (17 + c)), .int (nI k), .int (nI (6 - (d + 1)))] M (fun r M' => r = some (.int (if TY s (tnM M) (fnM M) d (k + 2) = 1 then TY s (tnM M) (fnM M) d (EN s d (k + 2)) else 0)) ∧ M = M') := by
  have hn24 : n ≤ 24 := hT.2.2.2.2.2
  have hk24 := OK_lt ok1
  refine Ct.of hI (sB_N0 g) rfl (Nat.le_of_ble_eq_true rfl) (fun K h0 hC hR hkl hn => ?_)
  have hC : Cx (sB g) K gC_Ty _ := hC
  show V K (wp (sB g)) M 0 [(0, .ref (ga g 2)), (1, .ref (ga g (17 + c))), (2, .int (nI k)), (3, .int (nI (6 - (d + 1))))] []
  subst hkl
  refine v_aload_n h0 d_Ty_ofBinding_0 1 rfl ?_
  refine v_iload_n h0 d_Ty_ofBinding_1 2 rfl ?_
  refine v_iconst h0 d_Ty_ofBinding_2 (v := nI 2) (by decide) ?_
  refine v_iadd h0 d_Ty_ofBinding_3 ?_
  refine v_int (nI (k + 2)) (nI_add k 2) ?_
  refine v_callV h0 hC (sB_N0 g) (17 + c) (show (17 + c) < 59 by omega) (eB_Te g (by omega) _) rfl (av := [.int (nI (k + 2))]) (rest := []) (m_Te_end (kl K) g hI M hc hT ok1 eo1) wd_337 wd_334 wd_335 wd_336 wd_3 hd_Te_endOf (by omega) (by decide) rfl rfl (Nat.le_of_ble_eq_true rfl) d_Ty_ofBinding_4 (fun r9 M9 hp9 => ?_)
  obtain ⟨rfl, rfl⟩ := hp9
  refine v_r1 ?_
  refine v_istore h0 d_Ty_ofBinding_7 (lv' := [(4, .int (nI (EN s d (k + 2)))), (0, .ref (ga g 2)), (1, .ref (ga g (17 + c))), (2, .int (nI k)), (3, .int (nI (6 - (d + 1))))]) (lt_kn hn (by decide)) rfl ?_
  refine v_aload_n h0 d_Ty_ofBinding_9 1 rfl ?_
  refine v_aload_n h0 d_Ty_ofBinding_10 2 rfl ?_
  refine v_iload_n h0 d_Ty_ofBinding_11 3 rfl ?_
  refine v_iconst h0 d_Ty_ofBinding_12 (v := nI 2) (by decide) ?_
  refine v_iadd h0 d_Ty_ofBinding_13 ?_
  refine v_int (nI (k + 2)) (nI_add k 2) ?_
  refine v_iload_n h0 d_Ty_ofBinding_14 4 rfl ?_
  refine v_iconst h0 d_Ty_ofBinding_15 (v := nI 1) (by decide) ?_
  refine v_iadd h0 d_Ty_ofBinding_16 ?_
  refine v_int (nI (6 - (d + 1) + 1)) (nI_add (6 - (d + 1)) 1) ?_
  refine v_int (nI (6 - d)) (sub_lev hd) ?_
  refine v_callS h0 hC (sB_N0 g) (av := [.ref (ga g 2), .ref (ga g (17 + c)), .int (nI (k + 2)), .int (nI (6 - d))]) (rest := []) (hTD M c n (k + 2) s e a _ hc hT hDV ok1 eo1) wd_329 wd_327 wd_328 wd_9 hd_Ty_ofExpression (by omega) (by decide) rfl rfl (Nat.le_of_ble_eq_true rfl) d_Ty_ofBinding_17 (fun r9 M9 hp9 => ?_)
  obtain ⟨rfl, rfl⟩ := hp9
  refine v_r1 ?_
  refine v_iconst h0 d_Ty_ofBinding_20 (v := 1) (by decide) ?_
  refine v_icmp_eq h0 d_Ty_ofBinding_21 rfl (fun h21 => ?_) (fun h21 => ?_)
  · skip
    refine v_aload_n h0 d_Ty_ofBinding_26 1 rfl ?_
    refine v_aload_n h0 d_Ty_ofBinding_27 2 rfl ?_
    refine v_iload h0 d_Ty_ofBinding_28 0 rfl ?_
    refine v_iload_n h0 d_Ty_ofBinding_30 4 rfl ?_
    refine v_iconst h0 d_Ty_ofBinding_31 (v := nI 1) (by decide) ?_
    refine v_iadd h0 d_Ty_ofBinding_32 ?_
    refine v_int (nI (6 - (d + 1) + 1)) (nI_add (6 - (d + 1)) 1) ?_
    refine v_int (nI (6 - d)) (sub_lev hd) ?_
    refine v_callS h0 hC (sB_N0 g) (av := [.ref (ga g 2), .ref (ga g (17 + c)), .int (nI (EN s d (k + 2))), .int (nI (6 - d))]) (rest := []) (hTD M c n (EN s d (k + 2)) s e a _ hc hT hDV ok2 eo2) wd_329 wd_327 wd_328 wd_9 hd_Ty_ofExpression (by omega) (by decide) rfl rfl (Nat.le_of_ble_eq_true rfl) d_Ty_ofBinding_33 (fun r9 M9 hp9 => ?_)
    obtain ⟨rfl, rfl⟩ := hp9
    refine v_r1 ?_
    exact v_iret h0 hC hR d_Ty_ofBinding_36 (⟨by rw [if_pos h21], rfl⟩)
  · skip
    refine v_iconst h0 d_Ty_ofBinding_24 (v := nI 0) (by decide) ?_
    exact v_iret h0 hC hR d_Ty_ofBinding_25 (⟨by rw [if_neg h21]; rfl, rfl⟩)
set_option maxHeartbeats 4000000 in
theorem m_Ty_ofCall (l : Launch) (g : Gd) (hI : sI (sB g)) (M : Me) {c n k d : Nat} {s e : Nat → Int32} {a : Int32} {b : Nat → Bool} (hc : c < 10) (hd : d + 1 ≤ 6) (hT : TX M c s n a e) (hDV : DV M) (hTD : TD l g d) (h1 : k + 1 < n) (h8 : kd (s (k + 1)) = 8) (ok1 : OK s n d b (k + 2) = true) (eo1 : EO s e d (k + 2)) : CB l g y_Ty_ofCall c_Ty_ofCall 5 (some .int) (2 * d + 5) [.ref (ga g 2), .ref (ga g (17 + c)), .int (nI k), .int (nI (6 - (d + 1)))] M (fun r M' => r = some (.int (if TY s (tnM M) (fnM M) d (k + 2) = 1 ∧ fnM M (nmI (s (k + 1))) = true then 1 else 0)) ∧ M = M') := by
  have hn24 : n ≤ 24 := hT.2.2.2.2.2
  have hk24 := OK_lt ok1
  refine Ct.of hI (sB_N0 g) rfl (Nat.le_of_ble_eq_true rfl) (fun K h0 hC hR hkl hn => ?_)
  have hC : Cx (sB g) K gC_Ty _ := hC
  show V K (wp (sB g)) M 0 [(0, .ref (ga g 2)), (1, .ref (ga g (17 + c))), (2, .int (nI k)), (3, .int (nI (6 - (d + 1))))] []
  subst hkl
  refine v_aload_n h0 d_Ty_ofCall_0 0 rfl ?_
  refine v_aload_n h0 d_Ty_ofCall_1 1 rfl ?_
  refine v_iload_n h0 d_Ty_ofCall_2 2 rfl ?_
  refine v_iconst h0 d_Ty_ofCall_3 (v := nI 1) (by decide) ?_
  refine v_iadd h0 d_Ty_ofCall_4 ?_
  refine v_int (nI (k + 1)) (nI_add k 1) ?_
  refine v_callV h0 hC (sB_N0 g) (17 + c) (show (17 + c) < 59 by omega) (eB_Te g (by omega) _) rfl (av := [.int (nI (k + 1))]) (rest := [.ref (ga g 2)]) (m_Te_sign (kl K) g hI M hc (by omega) hT) wd_197 wd_330 wd_195 wd_196 wd_3 hd_Te_signAt (by omega) (by decide) rfl rfl (Nat.le_of_ble_eq_true rfl) d_Ty_ofCall_5 (fun r9 M9 hp9 => ?_)
  obtain ⟨rfl, rfl⟩ := hp9
  refine v_r1 ?_
  refine v_int (s (k + 1)) (if_pos h1) ?_
  refine v_callSN h0 hC (sB_N0 g) (av := [.ref (ga g 2), .int (s (k + 1))]) (rest := []) (m_B_definerOf (kl K) g hI M h8) wd_349 wn_27 wd_348 wd_1 hd_B_definerOf (by omega) (by decide) rfl rfl (Nat.le_of_ble_eq_true rfl) d_Ty_ofCall_8 (fun r9 M9 hp9 => ?_)
  obtain ⟨rfl, rfl⟩ := hp9
  rcases hDV _ (nm_of h8).1 with hz | ⟨c1, hc1, hz⟩
  · skip
    refine v_r1 ?_
    refine v_top (.null) (by rw [hz, dcC_0]; rfl) ?_
    refine v_astoreN h0 d_Ty_ofCall_11 (lv' := [(4, .null), (0, .ref (ga g 2)), (1, .ref (ga g (17 + c))), (2, .int (nI k)), (3, .int (nI (6 - (d + 1))))]) (lt_kn hn (by decide)) rfl ?_
    refine v_aloadN h0 d_Ty_ofCall_13 0 rfl ?_
    refine v_ifnullN h0 d_Ty_ofCall_15 rfl ?_
    refine v_iconst h0 d_Ty_ofCall_29 (v := nI 0) (by decide) ?_
    exact v_iret h0 hC hR d_Ty_ofCall_30 (⟨by rw [if_neg (fun q => by have := q.2; unfold fnM at this; rw [if_pos hz] at this; cases this)]; rfl, rfl⟩)
  · skip
    refine v_r1 ?_
    refine v_top (.ref (ga g (7 + c1))) (by rw [hz, dcC_c g hc1]; rfl) ?_
    refine v_astore h0 d_Ty_ofCall_11 (lv' := [(4, .ref (ga g (7 + c1))), (0, .ref (ga g 2)), (1, .ref (ga g (17 + c))), (2, .int (nI k)), (3, .int (nI (6 - (d + 1))))]) (lt_kn hn (by decide)) rfl ?_
    refine v_aload h0 d_Ty_ofCall_13 0 rfl ?_
    refine v_ifnull h0 d_Ty_ofCall_15 ?_
    refine v_aload h0 d_Ty_ofCall_18 0 rfl ?_
    refine gN_Ce_text h0 hC (by omega) wn_6 d_Ty_ofCall_20 ?_
    refine v_callV h0 hC (sB_N0 g) (17 + c1) (show (17 + c1) < 59 by omega) (eB_Te g (by omega) _) rfl (av := []) (rest := []) (m_Te_isFunction (kl K) g hI M hc1) wd_258 wd_351 wd_256 wd_257 wd_3 hd_Te_isFunction (by omega) (by decide) rfl rfl (Nat.le_of_ble_eq_true rfl) d_Ty_ofCall_23 (fun r9 M9 hp9 => ?_)
    obtain ⟨rfl, rfl⟩ := hp9
    refine v_r1 ?_
    refine b_if_ne h0 d_Ty_ofCall_26 rfl (fun h26 => ?_) (fun h26 => ?_)
    · skip
      refine v_aload_n h0 d_Ty_ofCall_31 1 rfl ?_
      refine v_aload_n h0 d_Ty_ofCall_32 2 rfl ?_
      refine v_iload_n h0 d_Ty_ofCall_33 3 rfl ?_
      refine v_iconst h0 d_Ty_ofCall_34 (v := nI 2) (by decide) ?_
      refine v_iadd h0 d_Ty_ofCall_35 ?_
      refine v_int (nI (k + 2)) (nI_add k 2) ?_
      refine v_iload_n h0 d_Ty_ofCall_36 4 rfl ?_
      refine v_iconst h0 d_Ty_ofCall_37 (v := nI 1) (by decide) ?_
      refine v_iadd h0 d_Ty_ofCall_38 ?_
      refine v_int (nI (6 - (d + 1) + 1)) (nI_add (6 - (d + 1)) 1) ?_
      refine v_int (nI (6 - d)) (sub_lev hd) ?_
      refine v_callS h0 hC (sB_N0 g) (av := [.ref (ga g 2), .ref (ga g (17 + c)), .int (nI (k + 2)), .int (nI (6 - d))]) (rest := []) (hTD M c n (k + 2) s e a _ hc hT hDV ok1 eo1) wd_329 wd_327 wd_328 wd_9 hd_Ty_ofExpression (by omega) (by decide) rfl rfl (Nat.le_of_ble_eq_true rfl) d_Ty_ofCall_39 (fun r9 M9 hp9 => ?_)
      obtain ⟨rfl, rfl⟩ := hp9
      refine v_r1 ?_
      refine v_iconst h0 d_Ty_ofCall_42 (v := nI 1) (by decide) ?_
      refine v_icmp_ne h0 d_Ty_ofCall_43 rfl (fun h43 => ?_) (fun h43 => ?_)
      · skip
        refine v_iconst h0 d_Ty_ofCall_50 (v := nI 0) (by decide) ?_
        exact v_iret h0 hC hR d_Ty_ofCall_51 (⟨by rw [if_neg (fun q => h43 q.1)]; rfl, rfl⟩)
      · skip
        refine v_iconst h0 d_Ty_ofCall_46 (v := nI 1) (by decide) ?_
        refine v_goto h0 d_Ty_ofCall_47 rfl ?_
        exact v_iret h0 hC hR d_Ty_ofCall_51 (⟨by rw [if_pos ⟨h43, by unfold fnM; rw [if_neg (by rw [hz]; exact nI_ne0 (by omega) (by omega)), hz, dvN_c hc1]; exact h26⟩]; rfl, rfl⟩)
    · skip
      refine v_iconst h0 d_Ty_ofCall_29 (v := nI 0) (by decide) ?_
      exact v_iret h0 hC hR d_Ty_ofCall_30 (⟨by rw [if_neg (fun q => by have := q.2; unfold fnM at this; rw [if_neg (by rw [hz]; exact nI_ne0 (by omega) (by omega)), hz, dvN_c hc1, h26] at this; cases this)]; rfl, rfl⟩)
set_option maxHeartbeats 4000000 in
theorem m_Ty_ofMatch (l : Launch) (g : Gd) (hI : sI (sB g)) (M : Me) {c n k d : Nat} {s e : Nat → Int32} {a : Int32} {b : Nat → Bool} (hc : c < 10) (hd : d + 1 ≤ 6) (hT : TX M c s n a e) (hDV : DV M) (hTD : TD l g d) (ok1 : OK s n d b (k + 1) = true) (eo1 : EO s e d (k + 1)) (ok2 : OK s n d b (EN s d (k + 1) + 1) = true) (eo2 : EO s e d (EN s d (k + 1) + 1)) (ok3 : OK s n d b (EN s d (EN s d (k + 1) + 1) + 1) = true) (eo3 : EO s e d (EN s d (EN s d (k + 1) + 1) + 1)) : CB l g y_Ty_ofMatch c_Ty_ofMatch 6 (some .int) (2 * d + 5) [.ref (ga g 2), .ref (ga g (17 + c)), .int (nI k), .int (nI (6 - (d + 1)))] M (fun r M' => r = some (.int (if TY s (tnM M) (fnM M) d (k + 1) = 1 ∧ TY s (tnM M) (fnM M) d (EN s d (k + 1) + 1) = 1 ∧ TY s (tnM M) (fnM M) d (EN s d (EN s d (k + 1) + 1) + 1) = 1 then 1 else 0)) ∧ M = M') := by
  have hn24 : n ≤ 24 := hT.2.2.2.2.2
  have hk24 := OK_lt ok1
  refine Ct.of hI (sB_N0 g) rfl (Nat.le_of_ble_eq_true rfl) (fun K h0 hC hR hkl hn => ?_)
  have hC : Cx (sB g) K gC_Ty _ := hC
  show V K (wp (sB g)) M 0 [(0, .ref (ga g 2)), (1, .ref (ga g (17 + c))), (2, .int (nI k)), (3, .int (nI (6 - (d + 1))))] []
  subst hkl
  refine v_aload_n h0 d_Ty_ofMatch_0 1 rfl ?_
  refine v_iload_n h0 d_Ty_ofMatch_1 2 rfl ?_
  refine v_iconst h0 d_Ty_ofMatch_2 (v := nI 1) (by decide) ?_
  refine v_iadd h0 d_Ty_ofMatch_3 ?_
  refine v_int (nI (k + 1)) (nI_add k 1) ?_
  refine v_callV h0 hC (sB_N0 g) (17 + c) (show (17 + c) < 59 by omega) (eB_Te g (by omega) _) rfl (av := [.int (nI (k + 1))]) (rest := []) (m_Te_end (kl K) g hI M hc hT ok1 eo1) wd_337 wd_334 wd_335 wd_336 wd_3 hd_Te_endOf (by omega) (by decide) rfl rfl (Nat.le_of_ble_eq_true rfl) d_Ty_ofMatch_4 (fun r9 M9 hp9 => ?_)
  obtain ⟨rfl, rfl⟩ := hp9
  refine v_r1 ?_
  refine v_iconst h0 d_Ty_ofMatch_7 (v := nI 1) (by decide) ?_
  refine v_iadd h0 d_Ty_ofMatch_8 ?_
  refine v_int (nI (EN s d (k + 1) + 1)) (nI_add (EN s d (k + 1)) 1) ?_
  refine v_istore h0 d_Ty_ofMatch_9 (lv' := [(4, .int (nI (EN s d (k + 1) + 1))), (0, .ref (ga g 2)), (1, .ref (ga g (17 + c))), (2, .int (nI k)), (3, .int (nI (6 - (d + 1))))]) (lt_kn hn (by decide)) rfl ?_
  refine v_aload_n h0 d_Ty_ofMatch_11 2 rfl ?_
  refine v_iload h0 d_Ty_ofMatch_12 0 rfl ?_
  refine v_callV h0 hC (sB_N0 g) (17 + c) (show (17 + c) < 59 by omega) (eB_Te g (by omega) _) rfl (av := [.int (nI (EN s d (k + 1) + 1))]) (rest := []) (m_Te_end (kl K) g hI M hc hT ok2 eo2) wd_337 wd_334 wd_335 wd_336 wd_3 hd_Te_endOf (by omega) (by decide) rfl rfl (Nat.le_of_ble_eq_true rfl) d_Ty_ofMatch_14 (fun r9 M9 hp9 => ?_)
  obtain ⟨rfl, rfl⟩ := hp9
  refine v_r1 ?_
  refine v_iconst h0 d_Ty_ofMatch_17 (v := nI 1) (by decide) ?_
  refine v_iadd h0 d_Ty_ofMatch_18 ?_
  refine v_int (nI (EN s d (EN s d (k + 1) + 1) + 1)) (nI_add (EN s d (EN s d (k + 1) + 1)) 1) ?_
  refine v_istore h0 d_Ty_ofMatch_19 (lv' := [(5, .int (nI (EN s d (EN s d (k + 1) + 1) + 1))), (4, .int (nI (EN s d (k + 1) + 1))), (0, .ref (ga g 2)), (1, .ref (ga g (17 + c))), (2, .int (nI k)), (3, .int (nI (6 - (d + 1))))]) (lt_kn hn (by decide)) rfl ?_
  refine v_aload_n h0 d_Ty_ofMatch_21 2 rfl ?_
  refine v_aload_n h0 d_Ty_ofMatch_22 3 rfl ?_
  refine v_iload_n h0 d_Ty_ofMatch_23 4 rfl ?_
  refine v_iconst h0 d_Ty_ofMatch_24 (v := nI 1) (by decide) ?_
  refine v_iadd h0 d_Ty_ofMatch_25 ?_
  refine v_int (nI (k + 1)) (nI_add k 1) ?_
  refine v_iload_n h0 d_Ty_ofMatch_26 5 rfl ?_
  refine v_iconst h0 d_Ty_ofMatch_27 (v := nI 1) (by decide) ?_
  refine v_iadd h0 d_Ty_ofMatch_28 ?_
  refine v_int (nI (6 - (d + 1) + 1)) (nI_add (6 - (d + 1)) 1) ?_
  refine v_int (nI (6 - d)) (sub_lev hd) ?_
  refine v_callS h0 hC (sB_N0 g) (av := [.ref (ga g 2), .ref (ga g (17 + c)), .int (nI (k + 1)), .int (nI (6 - d))]) (rest := []) (hTD M c n (k + 1) s e a _ hc hT hDV ok1 eo1) wd_329 wd_327 wd_328 wd_9 hd_Ty_ofExpression (by omega) (by decide) rfl rfl (Nat.le_of_ble_eq_true rfl) d_Ty_ofMatch_29 (fun r9 M9 hp9 => ?_)
  obtain ⟨rfl, rfl⟩ := hp9
  refine v_r1 ?_
  refine v_iconst h0 d_Ty_ofMatch_32 (v := nI 1) (by decide) ?_
  refine v_icmp_ne h0 d_Ty_ofMatch_33 rfl (fun h33 => ?_) (fun h33 => ?_)
  · skip
    refine v_iconst h0 d_Ty_ofMatch_68 (v := nI 0) (by decide) ?_
    exact v_iret h0 hC hR d_Ty_ofMatch_69 (⟨by rw [if_neg (fun q => h33 q.1)]; rfl, rfl⟩)
  · skip
    refine v_aload_n h0 d_Ty_ofMatch_36 2 rfl ?_
    refine v_aload_n h0 d_Ty_ofMatch_37 3 rfl ?_
    refine v_iload h0 d_Ty_ofMatch_38 1 rfl ?_
    refine v_iload_n h0 d_Ty_ofMatch_40 5 rfl ?_
    refine v_iconst h0 d_Ty_ofMatch_41 (v := nI 1) (by decide) ?_
    refine v_iadd h0 d_Ty_ofMatch_42 ?_
    refine v_int (nI (6 - (d + 1) + 1)) (nI_add (6 - (d + 1)) 1) ?_
    refine v_int (nI (6 - d)) (sub_lev hd) ?_
    refine v_callS h0 hC (sB_N0 g) (av := [.ref (ga g 2), .ref (ga g (17 + c)), .int (nI (EN s d (k + 1) + 1)), .int (nI (6 - d))]) (rest := []) (hTD M c n (EN s d (k + 1) + 1) s e a _ hc hT hDV ok2 eo2) wd_329 wd_327 wd_328 wd_9 hd_Ty_ofExpression (by omega) (by decide) rfl rfl (Nat.le_of_ble_eq_true rfl) d_Ty_ofMatch_43 (fun r9 M9 hp9 => ?_)
    obtain ⟨rfl, rfl⟩ := hp9
    refine v_r1 ?_
    refine v_iconst h0 d_Ty_ofMatch_46 (v := nI 1) (by decide) ?_
    refine v_icmp_ne h0 d_Ty_ofMatch_47 rfl (fun h47 => ?_) (fun h47 => ?_)
    · skip
      refine v_iconst h0 d_Ty_ofMatch_68 (v := nI 0) (by decide) ?_
      exact v_iret h0 hC hR d_Ty_ofMatch_69 (⟨by rw [if_neg (fun q => h47 q.2.1)]; rfl, rfl⟩)
    · skip
      refine v_aload_n h0 d_Ty_ofMatch_50 2 rfl ?_
      refine v_aload_n h0 d_Ty_ofMatch_51 3 rfl ?_
      refine v_iload h0 d_Ty_ofMatch_52 0 rfl ?_
      refine v_iload_n h0 d_Ty_ofMatch_54 5 rfl ?_
      refine v_iconst h0 d_Ty_ofMatch_55 (v := nI 1) (by decide) ?_
      refine v_iadd h0 d_Ty_ofMatch_56 ?_
      refine v_int (nI (6 - (d + 1) + 1)) (nI_add (6 - (d + 1)) 1) ?_
      refine v_int (nI (6 - d)) (sub_lev hd) ?_
      refine v_callS h0 hC (sB_N0 g) (av := [.ref (ga g 2), .ref (ga g (17 + c)), .int (nI (EN s d (EN s d (k + 1) + 1) + 1)), .int (nI (6 - d))]) (rest := []) (hTD M c n (EN s d (EN s d (k + 1) + 1) + 1) s e a _ hc hT hDV ok3 eo3) wd_329 wd_327 wd_328 wd_9 hd_Ty_ofExpression (by omega) (by decide) rfl rfl (Nat.le_of_ble_eq_true rfl) d_Ty_ofMatch_57 (fun r9 M9 hp9 => ?_)
      obtain ⟨rfl, rfl⟩ := hp9
      refine v_r1 ?_
      refine v_iconst h0 d_Ty_ofMatch_60 (v := nI 1) (by decide) ?_
      refine v_icmp_ne h0 d_Ty_ofMatch_61 rfl (fun h61 => ?_) (fun h61 => ?_)
      · skip
        refine v_iconst h0 d_Ty_ofMatch_68 (v := nI 0) (by decide) ?_
        exact v_iret h0 hC hR d_Ty_ofMatch_69 (⟨by rw [if_neg (fun q => h61 q.2.2)]; rfl, rfl⟩)
      · skip
        refine v_iconst h0 d_Ty_ofMatch_64 (v := nI 1) (by decide) ?_
        refine v_goto h0 d_Ty_ofMatch_65 rfl ?_
        exact v_iret h0 hC hR d_Ty_ofMatch_69 (⟨by rw [if_pos ⟨h33, h47, h61⟩]; rfl, rfl⟩)
set_option maxHeartbeats 4000000 in
theorem m_Ty_ofLeaf (l : Launch) (g : Gd) (hI : sI (sB g)) (M : Me) {x : Int32} (hDV : DV M) : CB l g y_Ty_ofLeaf c_Ty_ofLeaf 3 (some .int) 3 [.ref (ga g 2), .int x] M (fun r M' => r = some (.int (if kd x = 8 then tnM M (nmI x) else 1)) ∧ M = M') := by
  refine Ct.of hI (sB_N0 g) rfl (Nat.le_of_ble_eq_true rfl) (fun K h0 hC hR hkl hn => ?_)
  have hC : Cx (sB g) K gC_Ty _ := hC
  show V K (wp (sB g)) M 0 [(0, .ref (ga g 2)), (1, .int x)] []
  refine v_iload_n h0 d_Ty_ofLeaf_0 1 rfl ?_
  refine v_callSN h0 hC (sB_N0 g) (av := [.int x]) (rest := []) (m_B_isName (kl K) g hI M _) wd_227 wn_28 wd_226 wd_1 hd_B_isName (by omega) (by decide) rfl rfl (Nat.le_of_ble_eq_true rfl) d_Ty_ofLeaf_1 (fun r9 M9 hp9 => ?_)
  obtain ⟨rfl, rfl⟩ := hp9
  refine v_r1 ?_
  refine b_if_ne h0 d_Ty_ofLeaf_4 rfl (fun h4 => ?_) (fun h4 => ?_)
  · skip
    refine v_aload_n h0 d_Ty_ofLeaf_9 0 rfl ?_
    refine v_iload_n h0 d_Ty_ofLeaf_10 1 rfl ?_
    refine v_callSN h0 hC (sB_N0 g) (av := [.ref (ga g 2), .int x]) (rest := []) (m_B_definerOf (kl K) g hI M (kdB_t h4)) wd_349 wn_27 wd_348 wd_1 hd_B_definerOf (by omega) (by decide) rfl rfl (Nat.le_of_ble_eq_true rfl) d_Ty_ofLeaf_11 (fun r9 M9 hp9 => ?_)
    obtain ⟨rfl, rfl⟩ := hp9
    rcases hDV _ (nm_of (kdB_t h4)).1 with hz | ⟨c1, hc1, hz⟩
    · skip
      refine v_r1 ?_
      refine v_top (.null) (by rw [hz, dcC_0]; rfl) ?_
      refine v_astore_nN h0 d_Ty_ofLeaf_14 (lv' := [(2, .null), (0, .ref (ga g 2)), (1, .int x)]) (lt_kn hn (by decide)) rfl ?_
      refine v_aload_nN h0 d_Ty_ofLeaf_15 0 rfl ?_
      refine v_ifnullN h0 d_Ty_ofLeaf_16 rfl ?_
      refine v_iconst h0 d_Ty_ofLeaf_29 (v := nI 0) (by decide) ?_
      refine v_goto h0 d_Ty_ofLeaf_30 rfl ?_
      exact v_iret h0 hC hR d_Ty_ofLeaf_37 (⟨by rw [if_pos (kdB_t h4)]; unfold tnM; rw [if_pos hz]; rfl, rfl⟩)
    · skip
      refine v_r1 ?_
      refine v_top (.ref (ga g (7 + c1))) (by rw [hz, dcC_c g hc1]; rfl) ?_
      refine v_astore_n h0 d_Ty_ofLeaf_14 (lv' := [(2, .ref (ga g (7 + c1))), (0, .ref (ga g 2)), (1, .int x)]) (lt_kn hn (by decide)) rfl ?_
      refine v_aload_n h0 d_Ty_ofLeaf_15 0 rfl ?_
      refine v_ifnull h0 d_Ty_ofLeaf_16 ?_
      refine v_aload_n h0 d_Ty_ofLeaf_19 0 rfl ?_
      refine gN_Ce_text h0 hC (by omega) wn_6 d_Ty_ofLeaf_20 ?_
      refine v_callV h0 hC (sB_N0 g) (17 + c1) (show (17 + c1) < 59 by omega) (eB_Te g (by omega) _) rfl (av := []) (rest := []) (m_Te_isFunction (kl K) g hI M hc1) wd_258 wd_351 wd_256 wd_257 wd_3 hd_Te_isFunction (by omega) (by decide) rfl rfl (Nat.le_of_ble_eq_true rfl) d_Ty_ofLeaf_23 (fun r9 M9 hp9 => ?_)
      obtain ⟨rfl, rfl⟩ := hp9
      refine v_r1 ?_
      refine b_if_eq h0 d_Ty_ofLeaf_26 rfl (fun h26 => ?_) (fun h26 => ?_)
      · skip
        refine v_aload_n h0 d_Ty_ofLeaf_33 0 rfl ?_
        refine gN_Ce_sort h0 hC (by omega) wn_16 d_Ty_ofLeaf_34 ?_
        exact v_iret h0 hC hR d_Ty_ofLeaf_37 (⟨by rw [if_pos (kdB_t h4)]; unfold tnM; rw [if_neg (by rw [hz]; exact nI_ne0 (by omega) (by omega)), hz, dvN_c hc1, h26]; rfl, rfl⟩)
      · skip
        refine v_iconst h0 d_Ty_ofLeaf_29 (v := nI 0) (by decide) ?_
        refine v_goto h0 d_Ty_ofLeaf_30 rfl ?_
        exact v_iret h0 hC hR d_Ty_ofLeaf_37 (⟨by rw [if_pos (kdB_t h4)]; unfold tnM; rw [if_neg (by rw [hz]; exact nI_ne0 (by omega) (by omega)), hz, dvN_c hc1, h26]; rfl, rfl⟩)
  · skip
    refine v_iconst h0 d_Ty_ofLeaf_7 (v := nI 1) (by decide) ?_
    exact v_iret h0 hC hR d_Ty_ofLeaf_8 (⟨by rw [if_neg (kdB_f h4)]; rfl, rfl⟩)
end
section
/-! THE TYPE OF AN EXPRESSION, AND OF A TEXT (the book) -/
set_option maxHeartbeats 4000000 in
theorem td_succ (l : Launch) (g : Gd) (hI : sI (sB g)) {d : Nat} (hd : d + 1 ≤ 6) (hTD : TD l g d) : TD l g (d + 1) := by
  intro M c n k s e a b hc hT hDV hok heo
  have hn24 : n ≤ 24 := hT.2.2.2.2.2
  have hkn := OK_k hok
  refine Ct.of hI (sB_N0 g) rfl (Nat.le_of_ble_eq_true rfl) (fun K h0 hC hR hkl hn => ?_)
  have hC : Cx (sB g) K gC_Ty _ := hC
  subst hkl
  show V K (wp (sB g)) M 0 [(0, .ref (ga g 2)), (1, .ref (ga g (17 + c))), (2, .int (nI k)), (3, .int (nI (6 - (d + 1))))] []
  refine v_iload_n h0 d_Ty_ofExpression_0 3 rfl ?_
  refine v_iconst h0 d_Ty_ofExpression_1 (v := nI 5) (by decide) ?_
  refine n_icmp_le h0 (by omega) (by omega) d_Ty_ofExpression_2 rfl (fun h2 => ?_) (fun h2 => absurd h2 (by omega))
  refine v_aload_n h0 d_Ty_ofExpression_7 1 rfl ?_
  refine v_iload_n h0 d_Ty_ofExpression_8 2 rfl ?_
  refine v_callV h0 hC (sB_N0 g) (17 + c) (show (17 + c) < 59 by omega) (eB_Te g (by omega) _) rfl (av := [.int (nI k)]) (rest := []) (m_Te_sign (kl K) g hI M hc (by omega) hT) wd_197 wd_330 wd_195 wd_196 wd_3 hd_Te_signAt (by omega) (by decide) rfl rfl (Nat.le_of_ble_eq_true rfl) d_Ty_ofExpression_9 (fun r9 M9 hp9 => ?_)
  obtain ⟨rfl, rfl⟩ := hp9
  refine v_r1 ?_
  refine v_int (s k) (if_pos hkn) ?_
  rcases OK_kd hok with q | q | q | q | q | q | q | q | q
  · skip
    rw [OK_2 s n d b k q] at hok
    rw [EO_2 s e d k q] at heo
    simp only [Bool.and_eq_true, decide_eq_true_eq] at hok
    rcases (kd_2 _).mp q with h | h | h | h | h | h | h
    · skip
      refine v_lookup h0 d_Ty_ofExpression_12 (by decide) (off := 108) (by rw [h]; decide) rfl ?_
      refine v_iconst h0 d_Ty_ofExpression_120 (v := 1) (by decide) ?_
      refine v_aload_n h0 d_Ty_ofExpression_121 0 rfl ?_
      refine v_aload_n h0 d_Ty_ofExpression_122 1 rfl ?_
      refine v_iload_n h0 d_Ty_ofExpression_123 2 rfl ?_
      refine v_iload_n h0 d_Ty_ofExpression_124 3 rfl ?_
      refine v_callS h0 hC (sB_N0 g) (av := [.int 1, .ref (ga g 2), .ref (ga g (17 + c)), .int (nI k), .int (nI (6 - (d + 1)))]) (rest := []) (m_Ty_areBoth (kl K) g hI M hc hd hT hDV hTD _ hok.2.1 heo.2.1 hok.2.2 heo.2.2) wd_333 wd_331 wd_332 wd_9 hd_Ty_areBoth (by omega) (by decide) rfl rfl (Nat.le_of_ble_eq_true rfl) d_Ty_ofExpression_125 (fun r9 M9 hp9 => ?_)
      obtain ⟨rfl, rfl⟩ := hp9
      refine v_r1 ?_
      refine b_if_eq h0 d_Ty_ofExpression_128 rfl (fun h128 => ?_) (fun h128 => ?_)
      · skip
        refine v_iconst h0 d_Ty_ofExpression_135 (v := nI 0) (by decide) ?_
        exact v_iret h0 hC hR d_Ty_ofExpression_136 (⟨by rw [TY_2 s _ _ d k q, if_neg (by rw [h]; decide), if_neg (of_decide_eq_false h128)]; rfl, rfl⟩)
      · skip
        refine v_iconst h0 d_Ty_ofExpression_131 (v := nI 1) (by decide) ?_
        refine v_goto h0 d_Ty_ofExpression_132 rfl ?_
        exact v_iret h0 hC hR d_Ty_ofExpression_136 (⟨by rw [TY_2 s _ _ d k q, if_neg (by rw [h]; decide), if_pos (of_decide_eq_true h128), if_neg (by rw [h]; decide)]; rfl, rfl⟩)
    · skip
      refine v_lookup h0 d_Ty_ofExpression_12 (by decide) (off := 108) (by rw [h]; decide) rfl ?_
      refine v_iconst h0 d_Ty_ofExpression_120 (v := 1) (by decide) ?_
      refine v_aload_n h0 d_Ty_ofExpression_121 0 rfl ?_
      refine v_aload_n h0 d_Ty_ofExpression_122 1 rfl ?_
      refine v_iload_n h0 d_Ty_ofExpression_123 2 rfl ?_
      refine v_iload_n h0 d_Ty_ofExpression_124 3 rfl ?_
      refine v_callS h0 hC (sB_N0 g) (av := [.int 1, .ref (ga g 2), .ref (ga g (17 + c)), .int (nI k), .int (nI (6 - (d + 1)))]) (rest := []) (m_Ty_areBoth (kl K) g hI M hc hd hT hDV hTD _ hok.2.1 heo.2.1 hok.2.2 heo.2.2) wd_333 wd_331 wd_332 wd_9 hd_Ty_areBoth (by omega) (by decide) rfl rfl (Nat.le_of_ble_eq_true rfl) d_Ty_ofExpression_125 (fun r9 M9 hp9 => ?_)
      obtain ⟨rfl, rfl⟩ := hp9
      refine v_r1 ?_
      refine b_if_eq h0 d_Ty_ofExpression_128 rfl (fun h128 => ?_) (fun h128 => ?_)
      · skip
        refine v_iconst h0 d_Ty_ofExpression_135 (v := nI 0) (by decide) ?_
        exact v_iret h0 hC hR d_Ty_ofExpression_136 (⟨by rw [TY_2 s _ _ d k q, if_neg (by rw [h]; decide), if_neg (of_decide_eq_false h128)]; rfl, rfl⟩)
      · skip
        refine v_iconst h0 d_Ty_ofExpression_131 (v := nI 1) (by decide) ?_
        refine v_goto h0 d_Ty_ofExpression_132 rfl ?_
        exact v_iret h0 hC hR d_Ty_ofExpression_136 (⟨by rw [TY_2 s _ _ d k q, if_neg (by rw [h]; decide), if_pos (of_decide_eq_true h128), if_neg (by rw [h]; decide)]; rfl, rfl⟩)
    · skip
      refine v_lookup h0 d_Ty_ofExpression_12 (by decide) (off := 108) (by rw [h]; decide) rfl ?_
      refine v_iconst h0 d_Ty_ofExpression_120 (v := 1) (by decide) ?_
      refine v_aload_n h0 d_Ty_ofExpression_121 0 rfl ?_
      refine v_aload_n h0 d_Ty_ofExpression_122 1 rfl ?_
      refine v_iload_n h0 d_Ty_ofExpression_123 2 rfl ?_
      refine v_iload_n h0 d_Ty_ofExpression_124 3 rfl ?_
      refine v_callS h0 hC (sB_N0 g) (av := [.int 1, .ref (ga g 2), .ref (ga g (17 + c)), .int (nI k), .int (nI (6 - (d + 1)))]) (rest := []) (m_Ty_areBoth (kl K) g hI M hc hd hT hDV hTD _ hok.2.1 heo.2.1 hok.2.2 heo.2.2) wd_333 wd_331 wd_332 wd_9 hd_Ty_areBoth (by omega) (by decide) rfl rfl (Nat.le_of_ble_eq_true rfl) d_Ty_ofExpression_125 (fun r9 M9 hp9 => ?_)
      obtain ⟨rfl, rfl⟩ := hp9
      refine v_r1 ?_
      refine b_if_eq h0 d_Ty_ofExpression_128 rfl (fun h128 => ?_) (fun h128 => ?_)
      · skip
        refine v_iconst h0 d_Ty_ofExpression_135 (v := nI 0) (by decide) ?_
        exact v_iret h0 hC hR d_Ty_ofExpression_136 (⟨by rw [TY_2 s _ _ d k q, if_neg (by rw [h]; decide), if_neg (of_decide_eq_false h128)]; rfl, rfl⟩)
      · skip
        refine v_iconst h0 d_Ty_ofExpression_131 (v := nI 1) (by decide) ?_
        refine v_goto h0 d_Ty_ofExpression_132 rfl ?_
        exact v_iret h0 hC hR d_Ty_ofExpression_136 (⟨by rw [TY_2 s _ _ d k q, if_neg (by rw [h]; decide), if_pos (of_decide_eq_true h128), if_neg (by rw [h]; decide)]; rfl, rfl⟩)
    · skip
      refine v_lookup h0 d_Ty_ofExpression_12 (by decide) (off := 108) (by rw [h]; decide) rfl ?_
      refine v_iconst h0 d_Ty_ofExpression_120 (v := 1) (by decide) ?_
      refine v_aload_n h0 d_Ty_ofExpression_121 0 rfl ?_
      refine v_aload_n h0 d_Ty_ofExpression_122 1 rfl ?_
      refine v_iload_n h0 d_Ty_ofExpression_123 2 rfl ?_
      refine v_iload_n h0 d_Ty_ofExpression_124 3 rfl ?_
      refine v_callS h0 hC (sB_N0 g) (av := [.int 1, .ref (ga g 2), .ref (ga g (17 + c)), .int (nI k), .int (nI (6 - (d + 1)))]) (rest := []) (m_Ty_areBoth (kl K) g hI M hc hd hT hDV hTD _ hok.2.1 heo.2.1 hok.2.2 heo.2.2) wd_333 wd_331 wd_332 wd_9 hd_Ty_areBoth (by omega) (by decide) rfl rfl (Nat.le_of_ble_eq_true rfl) d_Ty_ofExpression_125 (fun r9 M9 hp9 => ?_)
      obtain ⟨rfl, rfl⟩ := hp9
      refine v_r1 ?_
      refine b_if_eq h0 d_Ty_ofExpression_128 rfl (fun h128 => ?_) (fun h128 => ?_)
      · skip
        refine v_iconst h0 d_Ty_ofExpression_135 (v := nI 0) (by decide) ?_
        exact v_iret h0 hC hR d_Ty_ofExpression_136 (⟨by rw [TY_2 s _ _ d k q, if_neg (by rw [h]; decide), if_neg (of_decide_eq_false h128)]; rfl, rfl⟩)
      · skip
        refine v_iconst h0 d_Ty_ofExpression_131 (v := nI 1) (by decide) ?_
        refine v_goto h0 d_Ty_ofExpression_132 rfl ?_
        exact v_iret h0 hC hR d_Ty_ofExpression_136 (⟨by rw [TY_2 s _ _ d k q, if_neg (by rw [h]; decide), if_pos (of_decide_eq_true h128), if_neg (by rw [h]; decide)]; rfl, rfl⟩)
    · skip
      refine v_lookup h0 d_Ty_ofExpression_12 (by decide) (off := 125) (by rw [h]; decide) rfl ?_
      refine v_iconst h0 d_Ty_ofExpression_137 (v := 1) (by decide) ?_
      refine v_aload_n h0 d_Ty_ofExpression_138 0 rfl ?_
      refine v_aload_n h0 d_Ty_ofExpression_139 1 rfl ?_
      refine v_iload_n h0 d_Ty_ofExpression_140 2 rfl ?_
      refine v_iload_n h0 d_Ty_ofExpression_141 3 rfl ?_
      refine v_callS h0 hC (sB_N0 g) (av := [.int 1, .ref (ga g 2), .ref (ga g (17 + c)), .int (nI k), .int (nI (6 - (d + 1)))]) (rest := []) (m_Ty_areBoth (kl K) g hI M hc hd hT hDV hTD _ hok.2.1 heo.2.1 hok.2.2 heo.2.2) wd_333 wd_331 wd_332 wd_9 hd_Ty_areBoth (by omega) (by decide) rfl rfl (Nat.le_of_ble_eq_true rfl) d_Ty_ofExpression_142 (fun r9 M9 hp9 => ?_)
      obtain ⟨rfl, rfl⟩ := hp9
      refine v_r1 ?_
      refine b_if_eq h0 d_Ty_ofExpression_145 rfl (fun h145 => ?_) (fun h145 => ?_)
      · skip
        refine v_iconst h0 d_Ty_ofExpression_152 (v := nI 0) (by decide) ?_
        exact v_iret h0 hC hR d_Ty_ofExpression_153 (⟨by rw [TY_2 s _ _ d k q, if_neg (by rw [h]; decide), if_neg (of_decide_eq_false h145)]; rfl, rfl⟩)
      · skip
        refine v_iconst h0 d_Ty_ofExpression_148 (v := nI 2) (by decide) ?_
        refine v_goto h0 d_Ty_ofExpression_149 rfl ?_
        exact v_iret h0 hC hR d_Ty_ofExpression_153 (⟨by rw [TY_2 s _ _ d k q, if_neg (by rw [h]; decide), if_pos (of_decide_eq_true h145), if_pos (by rw [h]; decide)]; rfl, rfl⟩)
    · skip
      refine v_lookup h0 d_Ty_ofExpression_12 (by decide) (off := 125) (by rw [h]; decide) rfl ?_
      refine v_iconst h0 d_Ty_ofExpression_137 (v := 1) (by decide) ?_
      refine v_aload_n h0 d_Ty_ofExpression_138 0 rfl ?_
      refine v_aload_n h0 d_Ty_ofExpression_139 1 rfl ?_
      refine v_iload_n h0 d_Ty_ofExpression_140 2 rfl ?_
      refine v_iload_n h0 d_Ty_ofExpression_141 3 rfl ?_
      refine v_callS h0 hC (sB_N0 g) (av := [.int 1, .ref (ga g 2), .ref (ga g (17 + c)), .int (nI k), .int (nI (6 - (d + 1)))]) (rest := []) (m_Ty_areBoth (kl K) g hI M hc hd hT hDV hTD _ hok.2.1 heo.2.1 hok.2.2 heo.2.2) wd_333 wd_331 wd_332 wd_9 hd_Ty_areBoth (by omega) (by decide) rfl rfl (Nat.le_of_ble_eq_true rfl) d_Ty_ofExpression_142 (fun r9 M9 hp9 => ?_)
      obtain ⟨rfl, rfl⟩ := hp9
      refine v_r1 ?_
      refine b_if_eq h0 d_Ty_ofExpression_145 rfl (fun h145 => ?_) (fun h145 => ?_)
      · skip
        refine v_iconst h0 d_Ty_ofExpression_152 (v := nI 0) (by decide) ?_
        exact v_iret h0 hC hR d_Ty_ofExpression_153 (⟨by rw [TY_2 s _ _ d k q, if_neg (by rw [h]; decide), if_neg (of_decide_eq_false h145)]; rfl, rfl⟩)
      · skip
        refine v_iconst h0 d_Ty_ofExpression_148 (v := nI 2) (by decide) ?_
        refine v_goto h0 d_Ty_ofExpression_149 rfl ?_
        exact v_iret h0 hC hR d_Ty_ofExpression_153 (⟨by rw [TY_2 s _ _ d k q, if_neg (by rw [h]; decide), if_pos (of_decide_eq_true h145), if_pos (by rw [h]; decide)]; rfl, rfl⟩)
    · skip
      refine v_lookup h0 d_Ty_ofExpression_12 (by decide) (off := 142) (by rw [h]; decide) rfl ?_
      refine v_iconst h0 d_Ty_ofExpression_154 (v := 2) (by decide) ?_
      refine v_aload_n h0 d_Ty_ofExpression_155 0 rfl ?_
      refine v_aload_n h0 d_Ty_ofExpression_156 1 rfl ?_
      refine v_iload_n h0 d_Ty_ofExpression_157 2 rfl ?_
      refine v_iload_n h0 d_Ty_ofExpression_158 3 rfl ?_
      refine v_callS h0 hC (sB_N0 g) (av := [.int 2, .ref (ga g 2), .ref (ga g (17 + c)), .int (nI k), .int (nI (6 - (d + 1)))]) (rest := []) (m_Ty_areBoth (kl K) g hI M hc hd hT hDV hTD _ hok.2.1 heo.2.1 hok.2.2 heo.2.2) wd_333 wd_331 wd_332 wd_9 hd_Ty_areBoth (by omega) (by decide) rfl rfl (Nat.le_of_ble_eq_true rfl) d_Ty_ofExpression_159 (fun r9 M9 hp9 => ?_)
      obtain ⟨rfl, rfl⟩ := hp9
      refine v_r1 ?_
      refine b_if_eq h0 d_Ty_ofExpression_162 rfl (fun h162 => ?_) (fun h162 => ?_)
      · skip
        refine v_iconst h0 d_Ty_ofExpression_169 (v := nI 0) (by decide) ?_
        exact v_iret h0 hC hR d_Ty_ofExpression_170 (⟨by rw [TY_2 s _ _ d k q, if_pos h, if_neg (of_decide_eq_false h162)]; rfl, rfl⟩)
      · skip
        refine v_iconst h0 d_Ty_ofExpression_165 (v := nI 2) (by decide) ?_
        refine v_goto h0 d_Ty_ofExpression_166 rfl ?_
        exact v_iret h0 hC hR d_Ty_ofExpression_170 (⟨by rw [TY_2 s _ _ d k q, if_pos h, if_pos (of_decide_eq_true h162)]; rfl, rfl⟩)
  · skip
    rw [OK_1 s n d b k q] at hok
    rw [EO_1 s e d k q] at heo
    simp only [Bool.and_eq_true, decide_eq_true_eq] at hok
    refine v_lookup h0 d_Ty_ofExpression_12 (by decide) (off := 159) (by rw [(kd_1 _).mp q]; decide) rfl ?_
    refine v_aload_n h0 d_Ty_ofExpression_171 0 rfl ?_
    refine v_aload_n h0 d_Ty_ofExpression_172 1 rfl ?_
    refine v_iload_n h0 d_Ty_ofExpression_173 2 rfl ?_
    refine v_iconst h0 d_Ty_ofExpression_174 (v := nI 1) (by decide) ?_
    refine v_iadd h0 d_Ty_ofExpression_175 ?_
    refine v_int (nI (k + 1)) (nI_add k 1) ?_
    refine v_iload_n h0 d_Ty_ofExpression_176 3 rfl ?_
    refine v_iconst h0 d_Ty_ofExpression_177 (v := nI 1) (by decide) ?_
    refine v_iadd h0 d_Ty_ofExpression_178 ?_
    refine v_int (nI (6 - (d + 1) + 1)) (nI_add (6 - (d + 1)) 1) ?_
    refine v_int (nI (6 - d)) (sub_lev hd) ?_
    refine v_callS h0 hC (sB_N0 g) (av := [.ref (ga g 2), .ref (ga g (17 + c)), .int (nI (k + 1)), .int (nI (6 - d))]) (rest := []) (hTD M c n (k + 1) s e a b hc hT hDV hok.2 heo.2) wd_329 wd_327 wd_328 wd_9 hd_Ty_ofExpression (by omega) (by decide) rfl rfl (Nat.le_of_ble_eq_true rfl) d_Ty_ofExpression_179 (fun r9 M9 hp9 => ?_)
    obtain ⟨rfl, rfl⟩ := hp9
    refine v_r1 ?_
    refine v_iconst h0 d_Ty_ofExpression_182 (v := 2) (by decide) ?_
    refine v_icmp_ne h0 d_Ty_ofExpression_183 rfl (fun h183 => ?_) (fun h183 => ?_)
    · skip
      refine v_iconst h0 d_Ty_ofExpression_190 (v := nI 0) (by decide) ?_
      exact v_iret h0 hC hR d_Ty_ofExpression_191 (⟨by rw [TY_1 s _ _ d k q, if_neg h183]; rfl, rfl⟩)
    · skip
      refine v_iconst h0 d_Ty_ofExpression_186 (v := nI 2) (by decide) ?_
      refine v_goto h0 d_Ty_ofExpression_187 rfl ?_
      exact v_iret h0 hC hR d_Ty_ofExpression_191 (⟨by rw [TY_1 s _ _ d k q, if_pos h183]; rfl, rfl⟩)
  · skip
    rw [OK_3 s n d b k q] at hok
    rw [EO_3 s e d k q] at heo
    simp only [Bool.and_eq_true, decide_eq_true_eq] at hok
    refine v_lookup h0 d_Ty_ofExpression_12 (by decide) (off := 180) (by rw [(kd_3 _).mp q]; decide) rfl ?_
    refine v_aload_n h0 d_Ty_ofExpression_192 0 rfl ?_
    refine v_aload_n h0 d_Ty_ofExpression_193 1 rfl ?_
    refine v_iload_n h0 d_Ty_ofExpression_194 2 rfl ?_
    refine v_iload_n h0 d_Ty_ofExpression_195 3 rfl ?_
    refine v_callS h0 hC (sB_N0 g) (av := [.ref (ga g 2), .ref (ga g (17 + c)), .int (nI k), .int (nI (6 - (d + 1)))]) (rest := []) (m_Ty_ofChoice (kl K) g hI M hc hd hT hDV hTD hok.2.1 heo.2.1 hok.2.2.1 heo.2.2.1 hok.2.2.2 heo.2.2.2) wd_340 wd_338 wd_339 wd_9 hd_Ty_ofChoice (by omega) (by decide) rfl rfl (Nat.le_of_ble_eq_true rfl) d_Ty_ofExpression_196 (fun r9 M9 hp9 => ?_)
    obtain ⟨rfl, rfl⟩ := hp9
    refine v_r1 ?_
    exact v_iret h0 hC hR d_Ty_ofExpression_199 (⟨by rw [TY_3 s _ _ d k q], rfl⟩)
  · skip
    rw [OK_4 s n d b k q] at hok
    rw [EO_4 s e d k q] at heo
    simp only [Bool.and_eq_true, decide_eq_true_eq] at hok
    refine v_lookup h0 d_Ty_ofExpression_12 (by decide) (off := 188) (by rw [(kd_4 _).mp q]; decide) rfl ?_
    refine v_aload_n h0 d_Ty_ofExpression_200 0 rfl ?_
    refine v_aload_n h0 d_Ty_ofExpression_201 1 rfl ?_
    refine v_iload_n h0 d_Ty_ofExpression_202 2 rfl ?_
    refine v_iload_n h0 d_Ty_ofExpression_203 3 rfl ?_
    refine v_callS h0 hC (sB_N0 g) (av := [.ref (ga g 2), .ref (ga g (17 + c)), .int (nI k), .int (nI (6 - (d + 1)))]) (rest := []) (m_Ty_ofBinding (kl K) g hI M hc hd hT hDV hTD hok.2.2.1 heo.2.1 hok.2.2.2 heo.2.2) wd_343 wd_341 wd_342 wd_9 hd_Ty_ofBinding (by omega) (by decide) rfl rfl (Nat.le_of_ble_eq_true rfl) d_Ty_ofExpression_204 (fun r9 M9 hp9 => ?_)
    obtain ⟨rfl, rfl⟩ := hp9
    refine v_r1 ?_
    exact v_iret h0 hC hR d_Ty_ofExpression_207 (⟨by rw [TY_4 s _ _ d k q], rfl⟩)
  · skip
    rw [OK_5 s n d b k q] at hok
    rw [EO_5 s e d k q] at heo
    simp only [Bool.and_eq_true, decide_eq_true_eq] at hok
    refine v_lookup h0 d_Ty_ofExpression_12 (by decide) (off := 196) (by rw [(kd_5 _).mp q]; decide) rfl ?_
    refine v_aload_n h0 d_Ty_ofExpression_208 0 rfl ?_
    refine v_aload_n h0 d_Ty_ofExpression_209 1 rfl ?_
    refine v_iload_n h0 d_Ty_ofExpression_210 2 rfl ?_
    refine v_iload_n h0 d_Ty_ofExpression_211 3 rfl ?_
    refine v_callS h0 hC (sB_N0 g) (av := [.ref (ga g 2), .ref (ga g (17 + c)), .int (nI k), .int (nI (6 - (d + 1)))]) (rest := []) (m_Ty_ofCall (kl K) g hI M hc hd hT hDV hTD hok.2.1.1 hok.2.1.2 hok.2.2 heo.2) wd_346 wd_344 wd_345 wd_9 hd_Ty_ofCall (by omega) (by decide) rfl rfl (Nat.le_of_ble_eq_true rfl) d_Ty_ofExpression_212 (fun r9 M9 hp9 => ?_)
    obtain ⟨rfl, rfl⟩ := hp9
    refine v_r1 ?_
    exact v_iret h0 hC hR d_Ty_ofExpression_215 (⟨by rw [TY_5 s _ _ d k q], rfl⟩)
  · skip
    rw [OK_6 s n d b k q] at hok
    rw [EO_6 s e d k q] at heo
    simp only [Bool.and_eq_true, decide_eq_true_eq] at hok
    refine v_lookup h0 d_Ty_ofExpression_12 (by decide) (off := 204) (by rw [(kd_6 _).mp q]; decide) rfl ?_
    refine v_aload_n h0 d_Ty_ofExpression_216 0 rfl ?_
    refine v_aload_n h0 d_Ty_ofExpression_217 1 rfl ?_
    refine v_iload_n h0 d_Ty_ofExpression_218 2 rfl ?_
    refine v_iload_n h0 d_Ty_ofExpression_219 3 rfl ?_
    refine v_callS h0 hC (sB_N0 g) (av := [.ref (ga g 2), .ref (ga g (17 + c)), .int (nI k), .int (nI (6 - (d + 1)))]) (rest := []) (m_Ty_ofMatch (kl K) g hI M hc hd hT hDV hTD hok.2.1 heo.2.1 hok.2.2.2.1 heo.2.2.1 hok.2.2.2.2.2 heo.2.2.2) wd_354 wd_352 wd_353 wd_9 hd_Ty_ofMatch (by omega) (by decide) rfl rfl (Nat.le_of_ble_eq_true rfl) d_Ty_ofExpression_220 (fun r9 M9 hp9 => ?_)
    obtain ⟨rfl, rfl⟩ := hp9
    refine v_r1 ?_
    exact v_iret h0 hC hR d_Ty_ofExpression_223 (⟨by rw [TY_6 s _ _ d k q], rfl⟩)
  · skip
    refine v_lookup h0 d_Ty_ofExpression_12 (by decide) (lk_leaf (by omega) _ (by decide)) rfl ?_
    refine v_aload_n h0 d_Ty_ofExpression_224 0 rfl ?_
    refine v_aload_n h0 d_Ty_ofExpression_225 1 rfl ?_
    refine v_iload_n h0 d_Ty_ofExpression_226 2 rfl ?_
    refine v_callV h0 hC (sB_N0 g) (17 + c) (show (17 + c) < 59 by omega) (eB_Te g (by omega) _) rfl (av := [.int (nI k)]) (rest := [.ref (ga g 2)]) (m_Te_sign (kl K) g hI M hc (by omega) hT) wd_197 wd_330 wd_195 wd_196 wd_3 hd_Te_signAt (by omega) (by decide) rfl rfl (Nat.le_of_ble_eq_true rfl) d_Ty_ofExpression_227 (fun r9 M9 hp9 => ?_)
    obtain ⟨rfl, rfl⟩ := hp9
    refine v_r1 ?_
    refine v_int (s k) (if_pos hkn) ?_
    refine v_callS h0 hC (sB_N0 g) (av := [.ref (ga g 2), .int (s k)]) (rest := []) (m_Ty_ofLeaf (kl K) g hI M hDV) wd_357 wd_355 wd_356 wd_9 hd_Ty_ofLeaf (by omega) (by decide) rfl rfl (Nat.le_of_ble_eq_true rfl) d_Ty_ofExpression_230 (fun r9 M9 hp9 => ?_)
    obtain ⟨rfl, rfl⟩ := hp9
    refine v_r1 ?_
    exact v_iret h0 hC hR d_Ty_ofExpression_233 (⟨by rw [TY_7 s _ _ d k q, if_neg (by rw [q]; decide)], rfl⟩)
  · skip
    refine v_lookup h0 d_Ty_ofExpression_12 (by decide) (lk_leaf (by omega) _ (by decide)) rfl ?_
    refine v_aload_n h0 d_Ty_ofExpression_224 0 rfl ?_
    refine v_aload_n h0 d_Ty_ofExpression_225 1 rfl ?_
    refine v_iload_n h0 d_Ty_ofExpression_226 2 rfl ?_
    refine v_callV h0 hC (sB_N0 g) (17 + c) (show (17 + c) < 59 by omega) (eB_Te g (by omega) _) rfl (av := [.int (nI k)]) (rest := [.ref (ga g 2)]) (m_Te_sign (kl K) g hI M hc (by omega) hT) wd_197 wd_330 wd_195 wd_196 wd_3 hd_Te_signAt (by omega) (by decide) rfl rfl (Nat.le_of_ble_eq_true rfl) d_Ty_ofExpression_227 (fun r9 M9 hp9 => ?_)
    obtain ⟨rfl, rfl⟩ := hp9
    refine v_r1 ?_
    refine v_int (s k) (if_pos hkn) ?_
    refine v_callS h0 hC (sB_N0 g) (av := [.ref (ga g 2), .int (s k)]) (rest := []) (m_Ty_ofLeaf (kl K) g hI M hDV) wd_357 wd_355 wd_356 wd_9 hd_Ty_ofLeaf (by omega) (by decide) rfl rfl (Nat.le_of_ble_eq_true rfl) d_Ty_ofExpression_230 (fun r9 M9 hp9 => ?_)
    obtain ⟨rfl, rfl⟩ := hp9
    refine v_r1 ?_
    exact v_iret h0 hC hR d_Ty_ofExpression_233 (⟨by rw [TY_8 s _ _ d k q, if_pos q], rfl⟩)
  · skip
    refine v_lookup h0 d_Ty_ofExpression_12 (by decide) (lk_leaf (by omega) _ (by decide)) rfl ?_
    refine v_aload_n h0 d_Ty_ofExpression_224 0 rfl ?_
    refine v_aload_n h0 d_Ty_ofExpression_225 1 rfl ?_
    refine v_iload_n h0 d_Ty_ofExpression_226 2 rfl ?_
    refine v_callV h0 hC (sB_N0 g) (17 + c) (show (17 + c) < 59 by omega) (eB_Te g (by omega) _) rfl (av := [.int (nI k)]) (rest := [.ref (ga g 2)]) (m_Te_sign (kl K) g hI M hc (by omega) hT) wd_197 wd_330 wd_195 wd_196 wd_3 hd_Te_signAt (by omega) (by decide) rfl rfl (Nat.le_of_ble_eq_true rfl) d_Ty_ofExpression_227 (fun r9 M9 hp9 => ?_)
    obtain ⟨rfl, rfl⟩ := hp9
    refine v_r1 ?_
    refine v_int (s k) (if_pos hkn) ?_
    refine v_callS h0 hC (sB_N0 g) (av := [.ref (ga g 2), .int (s k)]) (rest := []) (m_Ty_ofLeaf (kl K) g hI M hDV) wd_357 wd_355 wd_356 wd_9 hd_Ty_ofLeaf (by omega) (by decide) rfl rfl (Nat.le_of_ble_eq_true rfl) d_Ty_ofExpression_230 (fun r9 M9 hp9 => ?_)
    obtain ⟨rfl, rfl⟩ := hp9
    refine v_r1 ?_
    exact v_iret h0 hC hR d_Ty_ofExpression_233 (⟨by rw [TY_9 s _ _ d k q, if_neg (by rw [q]; decide)], rfl⟩)
theorem td_all (l : Launch) (g : Gd) (hI : sI (sB g)) : ∀ d, d ≤ 6 → TD l g d := by
  intro d
  induction d with
  | zero => intro _ M c n k s e a b _ _ _ h _; simp [OK] at h
  | succ d ih => intro hd; exact td_succ l g hI hd (ih (by omega))
set_option maxHeartbeats 4000000 in
theorem m_Ty_ofText (l : Launch) (g : Gd) (hI : sI (sB g)) (M : Me) {c n : Nat} {s e : Nat → Int32} {a : Int32} {b : Nat → Bool} {t : Nat} (hc : c < 10) (hT : TX M c s n a e) (hDV : DV M) (hst : M (17 + c) 3 = nI t) (hok : OK s n 6 b t = true) (heo : EO s e 6 t) : CB l g y_Ty_ofText c_Ty_ofText 3 (some .int) 18 [.ref (ga g 2), .ref (ga g (17 + c))] M (fun r M' => r = some (.int (if fuB M c = true ∧ ¬ TY s (tnM M) (fnM M) 6 t = 1 then 0 else TY s (tnM M) (fnM M) 6 t)) ∧ M = M') := by
  refine Ct.of hI (sB_N0 g) rfl (Nat.le_of_ble_eq_true rfl) (fun K h0 hC hR hkl hn => ?_)
  have hC : Cx (sB g) K gC_Ty _ := hC
  show V K (wp (sB g)) M 0 [(0, .ref (ga g 2)), (1, .ref (ga g (17 + c)))] []
  refine v_aload_n h0 d_Ty_ofText_0 0 rfl ?_
  refine v_aload_n h0 d_Ty_ofText_1 1 rfl ?_
  refine v_aload_n h0 d_Ty_ofText_2 1 rfl ?_
  refine gN_Te_start h0 hC (by omega) wn_0 d_Ty_ofText_3 ?_
  refine v_int (nI t) (hst) ?_
  refine v_iconst h0 d_Ty_ofText_6 (v := nI 0) (by decide) ?_
  refine v_callS h0 hC (sB_N0 g) (av := [.ref (ga g 2), .ref (ga g (17 + c)), .int (nI t), .int (nI 0)]) (rest := []) (td_all (kl K) g hI 6 (by decide) M c n t s e a b hc hT hDV hok heo) wd_329 wd_327 wd_328 wd_9 hd_Ty_ofExpression (by omega) (by decide) rfl rfl (Nat.le_of_ble_eq_true rfl) d_Ty_ofText_7 (fun r9 M9 hp9 => ?_)
  obtain ⟨rfl, rfl⟩ := hp9
  refine v_r1 ?_
  refine v_istore_n h0 d_Ty_ofText_10 (lv' := [(2, .int (TY s (tnM M) (fnM M) 6 t)), (0, .ref (ga g 2)), (1, .ref (ga g (17 + c)))]) (lt_kn hn (by decide)) rfl ?_
  refine v_aload_n h0 d_Ty_ofText_11 2 rfl ?_
  refine v_callV h0 hC (sB_N0 g) (17 + c) (show (17 + c) < 59 by omega) (eB_Te g (by omega) _) rfl (av := []) (rest := []) (m_Te_isFunction (kl K) g hI M hc) wd_258 wd_351 wd_256 wd_257 wd_3 hd_Te_isFunction (by omega) (by decide) rfl rfl (Nat.le_of_ble_eq_true rfl) d_Ty_ofText_12 (fun r9 M9 hp9 => ?_)
  obtain ⟨rfl, rfl⟩ := hp9
  refine v_r1 ?_
  refine b_if_eq h0 d_Ty_ofText_15 rfl (fun h15 => ?_) (fun h15 => ?_)
  · skip
    refine v_iload_n h0 d_Ty_ofText_27 0 rfl ?_
    exact v_iret h0 hC hR d_Ty_ofText_28 (⟨by rw [if_neg (fun q => by rw [h15] at q; cases q.1)], rfl⟩)
  · skip
    refine v_iload_n h0 d_Ty_ofText_18 0 rfl ?_
    refine v_iconst h0 d_Ty_ofText_19 (v := 1) (by decide) ?_
    refine v_icmp_eq h0 d_Ty_ofText_20 rfl (fun h20 => ?_) (fun h20 => ?_)
    · skip
      refine v_iload_n h0 d_Ty_ofText_27 0 rfl ?_
      exact v_iret h0 hC hR d_Ty_ofText_28 (⟨by rw [if_neg (fun q => q.2 h20)], rfl⟩)
    · skip
      refine v_iconst h0 d_Ty_ofText_23 (v := nI 0) (by decide) ?_
      refine v_goto h0 d_Ty_ofText_24 rfl ?_
      exact v_iret h0 hC hR d_Ty_ofText_28 (⟨by rw [if_pos ⟨h15, h20⟩]; rfl, rfl⟩)
end
section
/-! EVALUATIONS: steps, truth values -/
theorem bd_e {r : Rs} {f : Int32 → Nat → Rs} (h : ¬ r.1 = 0) : bd r f = (r.1, 0, r.2.2) := if_neg h
theorem bd_o {r : Rs} {f : Int32 → Nat → Rs} (h : r.1 = 0) : bd r f = f r.2.1 r.2.2 := if_pos h
theorem bd_le {r : Rs} {f : Int32 → Nat → Rs} (h : r.2.2 ≤ 2000) (hf : ∀ v m, m ≤ 2000 → (f v m).2.2 ≤ 2000) : (bd r f).2.2 ≤ 2000 := by
  unfold bd
  split
  · exact hf _ _ h
  · exact h
theorem jn_le (x a b : Int32) {n : Nat} (h : n ≤ 2000) : (jn x a b n).2.2 ≤ 2000 := by
  unfold jn
  repeat' split
  all_goals exact h
theorem EV_le {tx : Nat → Nat → Int32} {df : Nat → Nat} {am : Nat → Int32} {cl : Nat → Int32 → Nat → Rs} (hcl : ∀ c a m, m ≤ 2000 → (cl c a m).2.2 ≤ 2000) (c : Nat) : ∀ (d k : Nat) (lc : Nat → Int32) (m : Nat), m ≤ 2000 → (EV tx df am cl c d k lc m).2.2 ≤ 2000 := by
  intro d
  induction d with
  | zero => intro k lc m h; exact h
  | succ d ih =>
    intro k lc m h
    by_cases hm : 2000 ≤ m
    · rw [EV_f tx df am cl c d k lc m hm]; exact h
    · have hm2 : m < 2000 := by omega
      have h1 : m + 1 ≤ 2000 := by omega
      rcases kd_cases (tx c k) with q | q | q | q | q | q | q | q | q | q
      · rw [EV_2 tx df am cl c d k lc m hm2 q]
        refine bd_le (ih _ _ _ h1) (fun v p hp => ?_)
        split
        · exact hp
        · exact bd_le (ih _ _ _ hp) (fun w p hp => jn_le _ _ _ hp)
      · rw [EV_1 tx df am cl c d k lc m hm2 q]
        exact bd_le (ih _ _ _ h1) (fun v p hp => hp)
      · rw [EV_3 tx df am cl c d k lc m hm2 q]
        exact bd_le (ih _ _ _ h1) (fun v p hp => bd_le (ih _ _ _ hp) (fun _ _ hp => hp))
      · rw [EV_4 tx df am cl c d k lc m hm2 q]
        exact bd_le (ih _ _ _ h1) (fun v p hp => bd_le (ih _ _ _ hp) (fun _ _ hp => hp))
      · rw [EV_5 tx df am cl c d k lc m hm2 q]
        exact bd_le (ih _ _ _ h1) (fun v p hp => bd_le (hcl _ _ _ hp) (fun _ _ hp => hp))
      · rw [EV_6 tx df am cl c d k lc m hm2 q]
        refine bd_le (ih _ _ _ h1) (fun v p hp => ?_)
        split
        · exact bd_le (ih _ _ _ hp) (fun _ _ hp => hp)
        · split
          · exact bd_le (ih _ _ _ hp) (fun _ _ hp => hp)
          · exact hp
      · rw [EV_7 tx df am cl c d k lc m hm2 q]; exact h1
      · rw [EV_8 tx df am cl c d k lc m hm2 q]; exact h1
      · rw [EV_9 tx df am cl c d k lc m hm2 q]; exact h1
      · simp only [EV, q, if_neg hm]; exact h1
theorem CL_le {tx : Nat → Nat → Int32} {df : Nat → Nat} {am : Nat → Int32} : ∀ (o c : Nat) (a : Int32) (m : Nat), m ≤ 2000 → (CL tx df am o c a m).2.2 ≤ 2000 := by
  intro o
  induction o with
  | zero => intro c a m h; exact h
  | succ o ih => intro c a m h; exact EV_le ih c 6 2 _ m h
def z1 (v : Int32) : Prop := v = 0 ∨ v = 1
theorem EV_bool {tx : Nat → Nat → Int32} {df : Nat → Nat} {am tn : Nat → Int32} {fn : Nat → Bool} {cl : Nat → Int32 → Nat → Rs} (hb : ∀ j, tn j = 2 → z1 (am (df j))) (c : Nat) : ∀ (d k : Nat) (lc : Nat → Int32) (m : Nat), TY (tx c) tn fn d k = 2 → (EV tx df am cl c d k lc m).1 = 0 → z1 (EV tx df am cl c d k lc m).2.1 := by
  intro d
  induction d with
  | zero => intro k lc m h; exact absurd h (by simp only [TY]; decide)
  | succ d ih =>
    intro k lc m ht he
    by_cases hm : 2000 ≤ m
    · rw [EV_f tx df am cl c d k lc m hm] at he; exact absurd he (by show ¬ (10 : Int32) = 0; decide)
    · have hm2 : m < 2000 := by omega
      rcases kd_cases (tx c k) with q | q | q | q | q | q | q | q | q | q
      · rw [EV_2 tx df am cl c d k lc m hm2 q] at he ⊢
        by_cases h1 : (EV tx df am cl c d (k + 1) lc (m + 1)).1 = 0
        · rw [bd_o h1] at he ⊢
          split
          · exact Or.inl rfl
          · rename_i hx
            rw [if_neg hx] at he
            by_cases h2 : (EV tx df am cl c d (EN (tx c) d (k + 1)) lc (EV tx df am cl c d (k + 1) lc (m + 1)).2.2).1 = 0
            · rw [bd_o h2] at he ⊢
              rw [TY_2 _ _ _ d k q] at ht
              unfold jn at he ⊢
              by_cases h38 : tx c k = 38
              · rw [if_pos h38] at ht ⊢
                split at ht
                · rename_i hh
                  exact ih _ _ _ hh.2 h2
                · exact absurd ht (by decide)
              · rw [if_neg h38] at ht ⊢
                split at ht
                · split at ht
                  · rename_i h60
                    rw [if_neg (by rcases h60 with h | h <;> (rw [h]; decide))]
                    show z1 (if tx c k = 43 then _ else _)
                    rw [if_neg (by rcases h60 with h | h <;> (rw [h]; decide)), if_neg (by rcases h60 with h | h <;> (rw [h]; decide)), if_neg (by rcases h60 with h | h <;> (rw [h]; decide))]
                    unfold z1
                    repeat' split
                    all_goals simp
                  · exact absurd ht (by decide)
                · exact absurd ht (by decide)
            · rw [bd_e h2] at he; exact absurd he h2
        · rw [bd_e h1] at he; exact absurd he h1
      · rw [EV_1 tx df am cl c d k lc m hm2 q] at he ⊢
        rw [TY_1 _ _ _ d k q] at ht
        split at ht
        · rename_i hh
          by_cases h1 : (EV tx df am cl c d (k + 1) lc (m + 1)).1 = 0
          · rw [bd_o h1]
            rcases ih _ _ _ hh h1 with h | h
            · right; show 1 - _ = _; rw [h]; decide
            · left; show 1 - _ = _; rw [h]; decide
          · rw [bd_e h1] at he; exact absurd he h1
        · exact absurd ht (by decide)
      · rw [EV_3 tx df am cl c d k lc m hm2 q] at he ⊢
        rw [TY_3 _ _ _ d k q] at ht
        split at ht
        · rename_i hh
          by_cases h1 : (EV tx df am cl c d (k + 1) lc (m + 1)).1 = 0
          · rw [bd_o h1] at he ⊢
            by_cases hv : (EV tx df am cl c d (k + 1) lc (m + 1)).2.1 = 0
            · rw [if_pos hv] at he ⊢
              by_cases h2 : (EV tx df am cl c d (EN (tx c) d (EN (tx c) d (k + 1))) lc (EV tx df am cl c d (k + 1) lc (m + 1)).2.2).1 = 0
              · rw [bd_o h2]; exact ih _ _ _ (hh.2 ▸ ht) h2
              · rw [bd_e h2] at he; exact absurd he h2
            · rw [if_neg hv] at he ⊢
              by_cases h2 : (EV tx df am cl c d (EN (tx c) d (k + 1)) lc (EV tx df am cl c d (k + 1) lc (m + 1)).2.2).1 = 0
              · rw [bd_o h2]; exact ih _ _ _ ht h2
              · rw [bd_e h2] at he; exact absurd he h2
          · rw [bd_e h1] at he; exact absurd he h1
        · exact absurd ht (by decide)
      · rw [EV_4 tx df am cl c d k lc m hm2 q] at he ⊢
        rw [TY_4 _ _ _ d k q] at ht
        split at ht
        · by_cases h1 : (EV tx df am cl c d (k + 2) lc (m + 1)).1 = 0
          · rw [bd_o h1] at he ⊢
            by_cases h2 : (EV tx df am cl c d (EN (tx c) d (k + 2)) (upd lc (lcI (tx c (k + 1))) (EV tx df am cl c d (k + 2) lc (m + 1)).2.1) (EV tx df am cl c d (k + 2) lc (m + 1)).2.2).1 = 0
            · rw [bd_o h2]; exact ih _ _ _ ht h2
            · rw [bd_e h2] at he; exact absurd he h2
          · rw [bd_e h1] at he; exact absurd he h1
        · exact absurd ht (by decide)
      · rw [TY_5 _ _ _ d k q] at ht
        split at ht <;> exact absurd ht (by decide)
      · rw [TY_6 _ _ _ d k q] at ht
        split at ht <;> exact absurd ht (by decide)
      · rw [TY_7 _ _ _ d k q] at ht; exact absurd ht (by decide)
      · rw [TY_8 _ _ _ d k q] at ht
        rw [EV_8 tx df am cl c d k lc m hm2 q]
        exact hb _ ht
      · rw [TY_9 _ _ _ d k q] at ht; exact absurd ht (by decide)
      · exact absurd ht (by simp only [TY, q]; decide)
end
