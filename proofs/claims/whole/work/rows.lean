section
-- ===== PART A: goes FIRST, ahead of the names: the tables' words, and 'selects' of the private methods out of them =====
/-- a private method of a class that the tables say can be made, by its rows of tables_1 -/
def lw_okq (q : MethodName × Nat) : Prop := (q.1.cls ≠ "java/lang/invoke/MethodHandle" ∧ q.1.cls ≠ "java/lang/invoke/VarHandle") ∧ Cond.instantiable q.1.cls q.2 ∈ tables_1 ∧ Cond.privateMethod q.1 ∈ tables_1 ∧ Cond.instanceMethod q.1 ∈ tables_1
theorem lw_p0 : lw_okq (⟨"TileOffice", "keep", "(LTileOffice$Pattern;)I"⟩, 15) := ⟨⟨by decide +kernel, by decide +kernel⟩, List.mem_of_getElem? (i := 20) (by decide +kernel), List.mem_of_getElem? (i := 372) (by decide +kernel), List.mem_of_getElem? (i := 373) (by decide +kernel)⟩
theorem lw_p1 : lw_okq (⟨"TileOffice", "patternOf", "(I)LTileOffice$Pattern;"⟩, 15) := ⟨⟨by decide +kernel, by decide +kernel⟩, List.mem_of_getElem? (i := 20) (by decide +kernel), List.mem_of_getElem? (i := 380) (by decide +kernel), List.mem_of_getElem? (i := 381) (by decide +kernel)⟩
theorem lw_p2 : lw_okq (⟨"TileOffice$RowStore", "enter", "([II)I"⟩, 3) := ⟨⟨by decide +kernel, by decide +kernel⟩, List.mem_of_getElem? (i := 172) (by decide +kernel), List.mem_of_getElem? (i := 409) (by decide +kernel), List.mem_of_getElem? (i := 410) (by decide +kernel)⟩
theorem lw_p3 : lw_okq (⟨"TileOffice", "setCell", "(IIII)Z"⟩, 15) := ⟨⟨by decide +kernel, by decide +kernel⟩, List.mem_of_getElem? (i := 20) (by decide +kernel), List.mem_of_getElem? (i := 443) (by decide +kernel), List.mem_of_getElem? (i := 444) (by decide +kernel)⟩
theorem lw_p4 : lw_okq (⟨"TileOffice$RowStore", "cellsOf", "(I)[I"⟩, 3) := ⟨⟨by decide +kernel, by decide +kernel⟩, List.mem_of_getElem? (i := 172) (by decide +kernel), List.mem_of_getElem? (i := 456) (by decide +kernel), List.mem_of_getElem? (i := 457) (by decide +kernel)⟩
theorem lw_p5 : lw_okq (⟨"TileOffice", "isKindInMove", "(II)Z"⟩, 15) := ⟨⟨by decide +kernel, by decide +kernel⟩, List.mem_of_getElem? (i := 20) (by decide +kernel), List.mem_of_getElem? (i := 482) (by decide +kernel), List.mem_of_getElem? (i := 483) (by decide +kernel)⟩
theorem lw_p6 : lw_okq (⟨"TileOffice", "placesOf", "(I)I"⟩, 15) := ⟨⟨by decide +kernel, by decide +kernel⟩, List.mem_of_getElem? (i := 20) (by decide +kernel), List.mem_of_getElem? (i := 522) (by decide +kernel), List.mem_of_getElem? (i := 523) (by decide +kernel)⟩
theorem lw_p7 : lw_okq (⟨"TileOffice$Block", "setCell", "(III)V"⟩, 3) := ⟨⟨by decide +kernel, by decide +kernel⟩, List.mem_of_getElem? (i := 216) (by decide +kernel), List.mem_of_getElem? (i := 567) (by decide +kernel), List.mem_of_getElem? (i := 568) (by decide +kernel)⟩
theorem lw_p8 : lw_okq (⟨"TileOffice$Block", "hasPlace", "(II)Z"⟩, 3) := ⟨⟨by decide +kernel, by decide +kernel⟩, List.mem_of_getElem? (i := 216) (by decide +kernel), List.mem_of_getElem? (i := 571) (by decide +kernel), List.mem_of_getElem? (i := 572) (by decide +kernel)⟩
theorem lw_p9 : lw_okq (⟨"TileOffice", "cellsThatCome", "(LTileOffice$Pattern;III)I"⟩, 15) := ⟨⟨by decide +kernel, by decide +kernel⟩, List.mem_of_getElem? (i := 20) (by decide +kernel), List.mem_of_getElem? (i := 607) (by decide +kernel), List.mem_of_getElem? (i := 608) (by decide +kernel)⟩
theorem lw_p10 : lw_okq (⟨"TileOffice", "comes", "(LTileOffice$Pattern;IIII)Z"⟩, 15) := ⟨⟨by decide +kernel, by decide +kernel⟩, List.mem_of_getElem? (i := 20) (by decide +kernel), List.mem_of_getElem? (i := 611) (by decide +kernel), List.mem_of_getElem? (i := 612) (by decide +kernel)⟩
theorem lw_p11 : lw_okq (⟨"TileOffice", "pasteRows", "(LTileOffice$Pattern;II)V"⟩, 15) := ⟨⟨by decide +kernel, by decide +kernel⟩, List.mem_of_getElem? (i := 20) (by decide +kernel), List.mem_of_getElem? (i := 616) (by decide +kernel), List.mem_of_getElem? (i := 617) (by decide +kernel)⟩
theorem lw_p12 : lw_okq (⟨"TileOffice", "ruleOf", "(I)LTileOffice$Rule;"⟩, 15) := ⟨⟨by decide +kernel, by decide +kernel⟩, List.mem_of_getElem? (i := 20) (by decide +kernel), List.mem_of_getElem? (i := 655) (by decide +kernel), List.mem_of_getElem? (i := 656) (by decide +kernel)⟩
theorem lw_p13 : lw_okq (⟨"TileOffice$Rule", "hasCell", "(III)Z"⟩, 5) := ⟨⟨by decide +kernel, by decide +kernel⟩, List.mem_of_getElem? (i := 626) (by decide +kernel), List.mem_of_getElem? (i := 667) (by decide +kernel), List.mem_of_getElem? (i := 668) (by decide +kernel)⟩
theorem lw_p14 : lw_okq (⟨"TileOffice", "growsStraight", "(LTileOffice$Pattern;LTileOffice$Rule;I)Z"⟩, 15) := ⟨⟨by decide +kernel, by decide +kernel⟩, List.mem_of_getElem? (i := 20) (by decide +kernel), List.mem_of_getElem? (i := 687) (by decide +kernel), List.mem_of_getElem? (i := 688) (by decide +kernel)⟩
theorem lw_p15 : lw_okq (⟨"TileOffice", "grownCell", "(LTileOffice$Pattern;LTileOffice$Rule;III)I"⟩, 15) := ⟨⟨by decide +kernel, by decide +kernel⟩, List.mem_of_getElem? (i := 20) (by decide +kernel), List.mem_of_getElem? (i := 691) (by decide +kernel), List.mem_of_getElem? (i := 692) (by decide +kernel)⟩
def lw_privs_1 : List (MethodName × Nat) := [(⟨"TileOffice", "keep", "(LTileOffice$Pattern;)I"⟩, 15), (⟨"TileOffice", "patternOf", "(I)LTileOffice$Pattern;"⟩, 15), (⟨"TileOffice$RowStore", "enter", "([II)I"⟩, 3), (⟨"TileOffice", "setCell", "(IIII)Z"⟩, 15), (⟨"TileOffice$RowStore", "cellsOf", "(I)[I"⟩, 3), (⟨"TileOffice", "isKindInMove", "(II)Z"⟩, 15), (⟨"TileOffice", "placesOf", "(I)I"⟩, 15), (⟨"TileOffice$Block", "setCell", "(III)V"⟩, 3), (⟨"TileOffice$Block", "hasPlace", "(II)Z"⟩, 3), (⟨"TileOffice", "cellsThatCome", "(LTileOffice$Pattern;III)I"⟩, 15), (⟨"TileOffice", "comes", "(LTileOffice$Pattern;IIII)Z"⟩, 15), (⟨"TileOffice", "pasteRows", "(LTileOffice$Pattern;II)V"⟩, 15), (⟨"TileOffice", "ruleOf", "(I)LTileOffice$Rule;"⟩, 15), (⟨"TileOffice$Rule", "hasCell", "(III)Z"⟩, 5), (⟨"TileOffice", "growsStraight", "(LTileOffice$Pattern;LTileOffice$Rule;I)Z"⟩, 15), (⟨"TileOffice", "grownCell", "(LTileOffice$Pattern;LTileOffice$Rule;III)I"⟩, 15)]
theorem lw_r1 : ∀ q ∈ lw_privs_1, lw_okq q := List.forall_mem_cons.mpr ⟨lw_p0, List.forall_mem_cons.mpr ⟨lw_p1, List.forall_mem_cons.mpr ⟨lw_p2, List.forall_mem_cons.mpr ⟨lw_p3, List.forall_mem_cons.mpr ⟨lw_p4, List.forall_mem_cons.mpr ⟨lw_p5, List.forall_mem_cons.mpr ⟨lw_p6, List.forall_mem_cons.mpr ⟨lw_p7, List.forall_mem_cons.mpr ⟨lw_p8, List.forall_mem_cons.mpr ⟨lw_p9, List.forall_mem_cons.mpr ⟨lw_p10, List.forall_mem_cons.mpr ⟨lw_p11, List.forall_mem_cons.mpr ⟨lw_p12, List.forall_mem_cons.mpr ⟨lw_p13, List.forall_mem_cons.mpr ⟨lw_p14, List.forall_mem_cons.mpr ⟨lw_p15, fun _ h => absurd h List.not_mem_nil⟩⟩⟩⟩⟩⟩⟩⟩⟩⟩⟩⟩⟩⟩⟩⟩
theorem lw_p16 : lw_okq (⟨"TileOffice$Rule", "rowBefore", "(III)I"⟩, 5) := ⟨⟨by decide +kernel, by decide +kernel⟩, List.mem_of_getElem? (i := 626) (by decide +kernel), List.mem_of_getElem? (i := 706) (by decide +kernel), List.mem_of_getElem? (i := 707) (by decide +kernel)⟩
theorem lw_p17 : lw_okq (⟨"TileOffice$Rule", "columnBefore", "(III)I"⟩, 5) := ⟨⟨by decide +kernel, by decide +kernel⟩, List.mem_of_getElem? (i := 626) (by decide +kernel), List.mem_of_getElem? (i := 710) (by decide +kernel), List.mem_of_getElem? (i := 711) (by decide +kernel)⟩
theorem lw_p18 : lw_okq (⟨"TileOffice$Rule", "cellAt", "(III)I"⟩, 5) := ⟨⟨by decide +kernel, by decide +kernel⟩, List.mem_of_getElem? (i := 626) (by decide +kernel), List.mem_of_getElem? (i := 715) (by decide +kernel), List.mem_of_getElem? (i := 716) (by decide +kernel)⟩
theorem lw_p19 : lw_okq (⟨"TileOffice", "grownRow", "(LTileOffice$Pattern;LTileOffice$Rule;II)I"⟩, 15) := ⟨⟨by decide +kernel, by decide +kernel⟩, List.mem_of_getElem? (i := 20) (by decide +kernel), List.mem_of_getElem? (i := 722) (by decide +kernel), List.mem_of_getElem? (i := 723) (by decide +kernel)⟩
theorem lw_p20 : lw_okq (⟨"TileOffice$Rule", "foretellStep", "([J[J)V"⟩, 5) := ⟨⟨by decide +kernel, by decide +kernel⟩, List.mem_of_getElem? (i := 626) (by decide +kernel), List.mem_of_getElem? (i := 739) (by decide +kernel), List.mem_of_getElem? (i := 740) (by decide +kernel)⟩
theorem lw_p21 : lw_okq (⟨"TileOffice", "markFound", "(LTileOffice$Pattern;I)V"⟩, 15) := ⟨⟨by decide +kernel, by decide +kernel⟩, List.mem_of_getElem? (i := 20) (by decide +kernel), List.mem_of_getElem? (i := 803) (by decide +kernel), List.mem_of_getElem? (i := 804) (by decide +kernel)⟩
theorem lw_p22 : lw_okq (⟨"TileOffice", "foundAt", "(I)I"⟩, 15) := ⟨⟨by decide +kernel, by decide +kernel⟩, List.mem_of_getElem? (i := 20) (by decide +kernel), List.mem_of_getElem? (i := 808) (by decide +kernel), List.mem_of_getElem? (i := 809) (by decide +kernel)⟩
theorem lw_p23 : lw_okq (⟨"TileOffice", "floorOf", "(I)LTileOffice$Floor;"⟩, 15) := ⟨⟨by decide +kernel, by decide +kernel⟩, List.mem_of_getElem? (i := 20) (by decide +kernel), List.mem_of_getElem? (i := 856) (by decide +kernel), List.mem_of_getElem? (i := 857) (by decide +kernel)⟩
theorem lw_p24 : lw_okq (⟨"TileOffice$Choices", "enter", "(I)V"⟩, 4) := ⟨⟨by decide +kernel, by decide +kernel⟩, List.mem_of_getElem? (i := 61) (by decide +kernel), List.mem_of_getElem? (i := 903) (by decide +kernel), List.mem_of_getElem? (i := 904) (by decide +kernel)⟩
theorem lw_p25 : lw_okq (⟨"TileOffice$Choices", "mark", "(II)V"⟩, 4) := ⟨⟨by decide +kernel, by decide +kernel⟩, List.mem_of_getElem? (i := 61) (by decide +kernel), List.mem_of_getElem? (i := 912) (by decide +kernel), List.mem_of_getElem? (i := 913) (by decide +kernel)⟩
theorem lw_p26 : lw_okq (⟨"TileOffice$Board", "has", "(I)Z"⟩, 11) := ⟨⟨by decide +kernel, by decide +kernel⟩, List.mem_of_getElem? (i := 59) (by decide +kernel), List.mem_of_getElem? (i := 920) (by decide +kernel), List.mem_of_getElem? (i := 921) (by decide +kernel)⟩
theorem lw_p27 : lw_okq (⟨"TileOffice$Board", "lookAround", "(I)V"⟩, 11) := ⟨⟨by decide +kernel, by decide +kernel⟩, List.mem_of_getElem? (i := 59) (by decide +kernel), List.mem_of_getElem? (i := 929) (by decide +kernel), List.mem_of_getElem? (i := 930) (by decide +kernel)⟩
theorem lw_p28 : lw_okq (⟨"TileOffice$Board", "beside", "(II)I"⟩, 11) := ⟨⟨by decide +kernel, by decide +kernel⟩, List.mem_of_getElem? (i := 59) (by decide +kernel), List.mem_of_getElem? (i := 933) (by decide +kernel), List.mem_of_getElem? (i := 934) (by decide +kernel)⟩
theorem lw_p29 : lw_okq (⟨"TileOffice$Board", "codeAt", "(I)I"⟩, 11) := ⟨⟨by decide +kernel, by decide +kernel⟩, List.mem_of_getElem? (i := 59) (by decide +kernel), List.mem_of_getElem? (i := 937) (by decide +kernel), List.mem_of_getElem? (i := 938) (by decide +kernel)⟩
theorem lw_p30 : lw_okq (⟨"TileOffice$Board", "recountAll", "()V"⟩, 11) := ⟨⟨by decide +kernel, by decide +kernel⟩, List.mem_of_getElem? (i := 59) (by decide +kernel), List.mem_of_getElem? (i := 942) (by decide +kernel), List.mem_of_getElem? (i := 943) (by decide +kernel)⟩
theorem lw_p31 : lw_okq (⟨"TileOffice$Board", "recount", "(I)V"⟩, 11) := ⟨⟨by decide +kernel, by decide +kernel⟩, List.mem_of_getElem? (i := 59) (by decide +kernel), List.mem_of_getElem? (i := 946) (by decide +kernel), List.mem_of_getElem? (i := 947) (by decide +kernel)⟩
def lw_privs_2 : List (MethodName × Nat) := [(⟨"TileOffice$Rule", "rowBefore", "(III)I"⟩, 5), (⟨"TileOffice$Rule", "columnBefore", "(III)I"⟩, 5), (⟨"TileOffice$Rule", "cellAt", "(III)I"⟩, 5), (⟨"TileOffice", "grownRow", "(LTileOffice$Pattern;LTileOffice$Rule;II)I"⟩, 15), (⟨"TileOffice$Rule", "foretellStep", "([J[J)V"⟩, 5), (⟨"TileOffice", "markFound", "(LTileOffice$Pattern;I)V"⟩, 15), (⟨"TileOffice", "foundAt", "(I)I"⟩, 15), (⟨"TileOffice", "floorOf", "(I)LTileOffice$Floor;"⟩, 15), (⟨"TileOffice$Choices", "enter", "(I)V"⟩, 4), (⟨"TileOffice$Choices", "mark", "(II)V"⟩, 4), (⟨"TileOffice$Board", "has", "(I)Z"⟩, 11), (⟨"TileOffice$Board", "lookAround", "(I)V"⟩, 11), (⟨"TileOffice$Board", "beside", "(II)I"⟩, 11), (⟨"TileOffice$Board", "codeAt", "(I)I"⟩, 11), (⟨"TileOffice$Board", "recountAll", "()V"⟩, 11), (⟨"TileOffice$Board", "recount", "(I)V"⟩, 11)]
theorem lw_r2 : ∀ q ∈ lw_privs_2, lw_okq q := List.forall_mem_cons.mpr ⟨lw_p16, List.forall_mem_cons.mpr ⟨lw_p17, List.forall_mem_cons.mpr ⟨lw_p18, List.forall_mem_cons.mpr ⟨lw_p19, List.forall_mem_cons.mpr ⟨lw_p20, List.forall_mem_cons.mpr ⟨lw_p21, List.forall_mem_cons.mpr ⟨lw_p22, List.forall_mem_cons.mpr ⟨lw_p23, List.forall_mem_cons.mpr ⟨lw_p24, List.forall_mem_cons.mpr ⟨lw_p25, List.forall_mem_cons.mpr ⟨lw_p26, List.forall_mem_cons.mpr ⟨lw_p27, List.forall_mem_cons.mpr ⟨lw_p28, List.forall_mem_cons.mpr ⟨lw_p29, List.forall_mem_cons.mpr ⟨lw_p30, List.forall_mem_cons.mpr ⟨lw_p31, fun _ h => absurd h List.not_mem_nil⟩⟩⟩⟩⟩⟩⟩⟩⟩⟩⟩⟩⟩⟩⟩⟩
theorem lw_p32 : lw_okq (⟨"TileOffice$Board", "isWaiting", "(I)Z"⟩, 11) := ⟨⟨by decide +kernel, by decide +kernel⟩, List.mem_of_getElem? (i := 59) (by decide +kernel), List.mem_of_getElem? (i := 950) (by decide +kernel), List.mem_of_getElem? (i := 951) (by decide +kernel)⟩
theorem lw_p33 : lw_okq (⟨"TileOffice$Board", "fittingWord", "(II)J"⟩, 11) := ⟨⟨by decide +kernel, by decide +kernel⟩, List.mem_of_getElem? (i := 59) (by decide +kernel), List.mem_of_getElem? (i := 954) (by decide +kernel), List.mem_of_getElem? (i := 955) (by decide +kernel)⟩
theorem lw_p34 : lw_okq (⟨"TileOffice$Search", "leastCostOn", "(LTileOffice$Floor;)I"⟩, 13) := ⟨⟨by decide +kernel, by decide +kernel⟩, List.mem_of_getElem? (i := 122) (by decide +kernel), List.mem_of_getElem? (i := 966) (by decide +kernel), List.mem_of_getElem? (i := 967) (by decide +kernel)⟩
theorem lw_p35 : lw_okq (⟨"TileOffice$Search", "noteFill", "(LTileOffice$Floor;)V"⟩, 13) := ⟨⟨by decide +kernel, by decide +kernel⟩, List.mem_of_getElem? (i := 122) (by decide +kernel), List.mem_of_getElem? (i := 980) (by decide +kernel), List.mem_of_getElem? (i := 981) (by decide +kernel)⟩
theorem lw_p36 : lw_okq (⟨"TileOffice$Search", "explore", "(LTileOffice$Floor;I)V"⟩, 13) := ⟨⟨by decide +kernel, by decide +kernel⟩, List.mem_of_getElem? (i := 122) (by decide +kernel), List.mem_of_getElem? (i := 992) (by decide +kernel), List.mem_of_getElem? (i := 993) (by decide +kernel)⟩
theorem lw_p37 : lw_okq (⟨"TileOffice$Search", "openDepth", "(I)V"⟩, 13) := ⟨⟨by decide +kernel, by decide +kernel⟩, List.mem_of_getElem? (i := 122) (by decide +kernel), List.mem_of_getElem? (i := 996) (by decide +kernel), List.mem_of_getElem? (i := 997) (by decide +kernel)⟩
theorem lw_p38 : lw_okq (⟨"TileOffice$Search", "nextTry", "()I"⟩, 13) := ⟨⟨by decide +kernel, by decide +kernel⟩, List.mem_of_getElem? (i := 122) (by decide +kernel), List.mem_of_getElem? (i := 1005) (by decide +kernel), List.mem_of_getElem? (i := 1006) (by decide +kernel)⟩
theorem lw_p39 : lw_okq (⟨"TileOffice$Search", "isPassedOver", "(I)Z"⟩, 13) := ⟨⟨by decide +kernel, by decide +kernel⟩, List.mem_of_getElem? (i := 122) (by decide +kernel), List.mem_of_getElem? (i := 1021) (by decide +kernel), List.mem_of_getElem? (i := 1022) (by decide +kernel)⟩
theorem lw_p40 : lw_okq (⟨"TileOffice$Search", "costOf", "(I)I"⟩, 13) := ⟨⟨by decide +kernel, by decide +kernel⟩, List.mem_of_getElem? (i := 122) (by decide +kernel), List.mem_of_getElem? (i := 1025) (by decide +kernel), List.mem_of_getElem? (i := 1026) (by decide +kernel)⟩
theorem lw_p41 : lw_okq (⟨"TileOffice$Search", "openAgain", "(I)V"⟩, 13) := ⟨⟨by decide +kernel, by decide +kernel⟩, List.mem_of_getElem? (i := 122) (by decide +kernel), List.mem_of_getElem? (i := 1037) (by decide +kernel), List.mem_of_getElem? (i := 1038) (by decide +kernel)⟩
theorem lw_p42 : lw_okq (⟨"TileOffice$Board", "changeLeft", "(II)Z"⟩, 11) := ⟨⟨by decide +kernel, by decide +kernel⟩, List.mem_of_getElem? (i := 59) (by decide +kernel), List.mem_of_getElem? (i := 1045) (by decide +kernel), List.mem_of_getElem? (i := 1046) (by decide +kernel)⟩
theorem lw_p43 : lw_okq (⟨"TileOffice$Board", "flipLeftBits", "(I)V"⟩, 11) := ⟨⟨by decide +kernel, by decide +kernel⟩, List.mem_of_getElem? (i := 59) (by decide +kernel), List.mem_of_getElem? (i := 1050) (by decide +kernel), List.mem_of_getElem? (i := 1051) (by decide +kernel)⟩
theorem lw_p44 : lw_okq (⟨"TileOffice$Board", "tellAround", "(I)V"⟩, 11) := ⟨⟨by decide +kernel, by decide +kernel⟩, List.mem_of_getElem? (i := 59) (by decide +kernel), List.mem_of_getElem? (i := 1054) (by decide +kernel), List.mem_of_getElem? (i := 1055) (by decide +kernel)⟩
theorem lw_p45 : lw_okq (⟨"TileOffice$Search", "noteTry", "(I)V"⟩, 13) := ⟨⟨by decide +kernel, by decide +kernel⟩, List.mem_of_getElem? (i := 122) (by decide +kernel), List.mem_of_getElem? (i := 1058) (by decide +kernel), List.mem_of_getElem? (i := 1059) (by decide +kernel)⟩
theorem lw_p46 : lw_okq (⟨"TileOffice$Board", "forceRound", "()I"⟩, 11) := ⟨⟨by decide +kernel, by decide +kernel⟩, List.mem_of_getElem? (i := 59) (by decide +kernel), List.mem_of_getElem? (i := 1085) (by decide +kernel), List.mem_of_getElem? (i := 1086) (by decide +kernel)⟩
theorem lw_p47 : lw_okq (⟨"TileOffice$History", "latest", "()I"⟩, 5) := ⟨⟨by decide +kernel, by decide +kernel⟩, List.mem_of_getElem? (i := 193) (by decide +kernel), List.mem_of_getElem? (i := 1108) (by decide +kernel), List.mem_of_getElem? (i := 1109) (by decide +kernel)⟩
def lw_privs_3 : List (MethodName × Nat) := [(⟨"TileOffice$Board", "isWaiting", "(I)Z"⟩, 11), (⟨"TileOffice$Board", "fittingWord", "(II)J"⟩, 11), (⟨"TileOffice$Search", "leastCostOn", "(LTileOffice$Floor;)I"⟩, 13), (⟨"TileOffice$Search", "noteFill", "(LTileOffice$Floor;)V"⟩, 13), (⟨"TileOffice$Search", "explore", "(LTileOffice$Floor;I)V"⟩, 13), (⟨"TileOffice$Search", "openDepth", "(I)V"⟩, 13), (⟨"TileOffice$Search", "nextTry", "()I"⟩, 13), (⟨"TileOffice$Search", "isPassedOver", "(I)Z"⟩, 13), (⟨"TileOffice$Search", "costOf", "(I)I"⟩, 13), (⟨"TileOffice$Search", "openAgain", "(I)V"⟩, 13), (⟨"TileOffice$Board", "changeLeft", "(II)Z"⟩, 11), (⟨"TileOffice$Board", "flipLeftBits", "(I)V"⟩, 11), (⟨"TileOffice$Board", "tellAround", "(I)V"⟩, 11), (⟨"TileOffice$Search", "noteTry", "(I)V"⟩, 13), (⟨"TileOffice$Board", "forceRound", "()I"⟩, 11), (⟨"TileOffice$History", "latest", "()I"⟩, 5)]
theorem lw_r3 : ∀ q ∈ lw_privs_3, lw_okq q := List.forall_mem_cons.mpr ⟨lw_p32, List.forall_mem_cons.mpr ⟨lw_p33, List.forall_mem_cons.mpr ⟨lw_p34, List.forall_mem_cons.mpr ⟨lw_p35, List.forall_mem_cons.mpr ⟨lw_p36, List.forall_mem_cons.mpr ⟨lw_p37, List.forall_mem_cons.mpr ⟨lw_p38, List.forall_mem_cons.mpr ⟨lw_p39, List.forall_mem_cons.mpr ⟨lw_p40, List.forall_mem_cons.mpr ⟨lw_p41, List.forall_mem_cons.mpr ⟨lw_p42, List.forall_mem_cons.mpr ⟨lw_p43, List.forall_mem_cons.mpr ⟨lw_p44, List.forall_mem_cons.mpr ⟨lw_p45, List.forall_mem_cons.mpr ⟨lw_p46, List.forall_mem_cons.mpr ⟨lw_p47, fun _ h => absurd h List.not_mem_nil⟩⟩⟩⟩⟩⟩⟩⟩⟩⟩⟩⟩⟩⟩⟩⟩
theorem lw_p48 : lw_okq (⟨"TileOfficeModel", "isKind", "(I)Z"⟩, 55) := ⟨⟨by decide +kernel, by decide +kernel⟩, List.mem_of_getElem? (i := 1121) (by decide +kernel), List.mem_of_getElem? (i := 1324) (by decide +kernel), List.mem_of_getElem? (i := 1325) (by decide +kernel)⟩
theorem lw_p49 : lw_okq (⟨"TileOfficeModel", "lies", "(II)I"⟩, 55) := ⟨⟨by decide +kernel, by decide +kernel⟩, List.mem_of_getElem? (i := 1121) (by decide +kernel), List.mem_of_getElem? (i := 1328) (by decide +kernel), List.mem_of_getElem? (i := 1329) (by decide +kernel)⟩
theorem lw_p50 : lw_okq (⟨"TileOfficeModel", "colour", "(III)I"⟩, 55) := ⟨⟨by decide +kernel, by decide +kernel⟩, List.mem_of_getElem? (i := 1121) (by decide +kernel), List.mem_of_getElem? (i := 1332) (by decide +kernel), List.mem_of_getElem? (i := 1333) (by decide +kernel)⟩
theorem lw_p51 : lw_okq (⟨"TileOfficeModel", "isPattern", "(I)Z"⟩, 55) := ⟨⟨by decide +kernel, by decide +kernel⟩, List.mem_of_getElem? (i := 1121) (by decide +kernel), List.mem_of_getElem? (i := 1348) (by decide +kernel), List.mem_of_getElem? (i := 1349) (by decide +kernel)⟩
theorem lw_p52 : lw_okq (⟨"TileOfficeModel", "keep", "(I)V"⟩, 55) := ⟨⟨by decide +kernel, by decide +kernel⟩, List.mem_of_getElem? (i := 1121) (by decide +kernel), List.mem_of_getElem? (i := 1352) (by decide +kernel), List.mem_of_getElem? (i := 1353) (by decide +kernel)⟩
theorem lw_p53 : lw_okq (⟨"TileOfficeModel", "rowOf", "(II)I"⟩, 55) := ⟨⟨by decide +kernel, by decide +kernel⟩, List.mem_of_getElem? (i := 1121) (by decide +kernel), List.mem_of_getElem? (i := 1356) (by decide +kernel), List.mem_of_getElem? (i := 1357) (by decide +kernel)⟩
theorem lw_p54 : lw_okq (⟨"TileOfficeModel", "newRow", "(II)I"⟩, 55) := ⟨⟨by decide +kernel, by decide +kernel⟩, List.mem_of_getElem? (i := 1121) (by decide +kernel), List.mem_of_getElem? (i := 1360) (by decide +kernel), List.mem_of_getElem? (i := 1361) (by decide +kernel)⟩
theorem lw_p55 : lw_okq (⟨"TileOfficeModel", "takeRow", "(II)V"⟩, 55) := ⟨⟨by decide +kernel, by decide +kernel⟩, List.mem_of_getElem? (i := 1121) (by decide +kernel), List.mem_of_getElem? (i := 1368) (by decide +kernel), List.mem_of_getElem? (i := 1369) (by decide +kernel)⟩
theorem lw_p56 : lw_okq (⟨"TileOfficeModel", "has", "(IJJ)Z"⟩, 55) := ⟨⟨by decide +kernel, by decide +kernel⟩, List.mem_of_getElem? (i := 1121) (by decide +kernel), List.mem_of_getElem? (i := 1380) (by decide +kernel), List.mem_of_getElem? (i := 1381) (by decide +kernel)⟩
theorem lw_p57 : lw_okq (⟨"TileOfficeModel", "sets", "(IIII)Z"⟩, 55) := ⟨⟨by decide +kernel, by decide +kernel⟩, List.mem_of_getElem? (i := 1121) (by decide +kernel), List.mem_of_getElem? (i := 1387) (by decide +kernel), List.mem_of_getElem? (i := 1388) (by decide +kernel)⟩
theorem lw_p58 : lw_okq (⟨"TileOfficeModel", "own", "(II)V"⟩, 55) := ⟨⟨by decide +kernel, by decide +kernel⟩, List.mem_of_getElem? (i := 1121) (by decide +kernel), List.mem_of_getElem? (i := 1391) (by decide +kernel), List.mem_of_getElem? (i := 1392) (by decide +kernel)⟩
theorem lw_p59 : lw_okq (⟨"TileOfficeModel", "placeOf", "(III)I"⟩, 55) := ⟨⟨by decide +kernel, by decide +kernel⟩, List.mem_of_getElem? (i := 1121) (by decide +kernel), List.mem_of_getElem? (i := 1395) (by decide +kernel), List.mem_of_getElem? (i := 1396) (by decide +kernel)⟩
theorem lw_p60 : lw_okq (⟨"TileOfficeModel", "cellAt", "(III)I"⟩, 55) := ⟨⟨by decide +kernel, by decide +kernel⟩, List.mem_of_getElem? (i := 1121) (by decide +kernel), List.mem_of_getElem? (i := 1403) (by decide +kernel), List.mem_of_getElem? (i := 1404) (by decide +kernel)⟩
theorem lw_p61 : lw_okq (⟨"TileOfficeModel", "comesFrom", "(IIIII)V"⟩, 55) := ⟨⟨by decide +kernel, by decide +kernel⟩, List.mem_of_getElem? (i := 1121) (by decide +kernel), List.mem_of_getElem? (i := 1441) (by decide +kernel), List.mem_of_getElem? (i := 1442) (by decide +kernel)⟩
theorem lw_p62 : lw_okq (⟨"TileOfficeModel", "moved", "(II)I"⟩, 55) := ⟨⟨by decide +kernel, by decide +kernel⟩, List.mem_of_getElem? (i := 1121) (by decide +kernel), List.mem_of_getElem? (i := 1445) (by decide +kernel), List.mem_of_getElem? (i := 1446) (by decide +kernel)⟩
theorem lw_p63 : lw_okq (⟨"TileOfficeModel", "comes", "(IIII)I"⟩, 55) := ⟨⟨by decide +kernel, by decide +kernel⟩, List.mem_of_getElem? (i := 1121) (by decide +kernel), List.mem_of_getElem? (i := 1453) (by decide +kernel), List.mem_of_getElem? (i := 1454) (by decide +kernel)⟩
def lw_privs_4 : List (MethodName × Nat) := [(⟨"TileOfficeModel", "isKind", "(I)Z"⟩, 55), (⟨"TileOfficeModel", "lies", "(II)I"⟩, 55), (⟨"TileOfficeModel", "colour", "(III)I"⟩, 55), (⟨"TileOfficeModel", "isPattern", "(I)Z"⟩, 55), (⟨"TileOfficeModel", "keep", "(I)V"⟩, 55), (⟨"TileOfficeModel", "rowOf", "(II)I"⟩, 55), (⟨"TileOfficeModel", "newRow", "(II)I"⟩, 55), (⟨"TileOfficeModel", "takeRow", "(II)V"⟩, 55), (⟨"TileOfficeModel", "has", "(IJJ)Z"⟩, 55), (⟨"TileOfficeModel", "sets", "(IIII)Z"⟩, 55), (⟨"TileOfficeModel", "own", "(II)V"⟩, 55), (⟨"TileOfficeModel", "placeOf", "(III)I"⟩, 55), (⟨"TileOfficeModel", "cellAt", "(III)I"⟩, 55), (⟨"TileOfficeModel", "comesFrom", "(IIIII)V"⟩, 55), (⟨"TileOfficeModel", "moved", "(II)I"⟩, 55), (⟨"TileOfficeModel", "comes", "(IIII)I"⟩, 55)]
theorem lw_r4 : ∀ q ∈ lw_privs_4, lw_okq q := List.forall_mem_cons.mpr ⟨lw_p48, List.forall_mem_cons.mpr ⟨lw_p49, List.forall_mem_cons.mpr ⟨lw_p50, List.forall_mem_cons.mpr ⟨lw_p51, List.forall_mem_cons.mpr ⟨lw_p52, List.forall_mem_cons.mpr ⟨lw_p53, List.forall_mem_cons.mpr ⟨lw_p54, List.forall_mem_cons.mpr ⟨lw_p55, List.forall_mem_cons.mpr ⟨lw_p56, List.forall_mem_cons.mpr ⟨lw_p57, List.forall_mem_cons.mpr ⟨lw_p58, List.forall_mem_cons.mpr ⟨lw_p59, List.forall_mem_cons.mpr ⟨lw_p60, List.forall_mem_cons.mpr ⟨lw_p61, List.forall_mem_cons.mpr ⟨lw_p62, List.forall_mem_cons.mpr ⟨lw_p63, fun _ h => absurd h List.not_mem_nil⟩⟩⟩⟩⟩⟩⟩⟩⟩⟩⟩⟩⟩⟩⟩⟩
theorem lw_p64 : lw_okq (⟨"TileOfficeModel", "isRule", "(I)Z"⟩, 55) := ⟨⟨by decide +kernel, by decide +kernel⟩, List.mem_of_getElem? (i := 1121) (by decide +kernel), List.mem_of_getElem? (i := 1465) (by decide +kernel), List.mem_of_getElem? (i := 1466) (by decide +kernel)⟩
theorem lw_p65 : lw_okq (⟨"TileOfficeModel", "grown", "(III)Z"⟩, 55) := ⟨⟨by decide +kernel, by decide +kernel⟩, List.mem_of_getElem? (i := 1121) (by decide +kernel), List.mem_of_getElem? (i := 1473) (by decide +kernel), List.mem_of_getElem? (i := 1474) (by decide +kernel)⟩
theorem lw_p66 : lw_okq (⟨"TileOfficeModel", "block", "(IIII)I"⟩, 55) := ⟨⟨by decide +kernel, by decide +kernel⟩, List.mem_of_getElem? (i := 1121) (by decide +kernel), List.mem_of_getElem? (i := 1477) (by decide +kernel), List.mem_of_getElem? (i := 1478) (by decide +kernel)⟩
theorem lw_p67 : lw_okq (⟨"TileOfficeModel", "fit", "(III)Z"⟩, 55) := ⟨⟨by decide +kernel, by decide +kernel⟩, List.mem_of_getElem? (i := 1121) (by decide +kernel), List.mem_of_getElem? (i := 1499) (by decide +kernel), List.mem_of_getElem? (i := 1500) (by decide +kernel)⟩
theorem lw_p68 : lw_okq (⟨"TileOfficeModel", "comesAgain", "(III)Z"⟩, 55) := ⟨⟨by decide +kernel, by decide +kernel⟩, List.mem_of_getElem? (i := 1121) (by decide +kernel), List.mem_of_getElem? (i := 1507) (by decide +kernel), List.mem_of_getElem? (i := 1508) (by decide +kernel)⟩
theorem lw_p69 : lw_okq (⟨"TileOfficeModel", "isFull", "(I)Z"⟩, 55) := ⟨⟨by decide +kernel, by decide +kernel⟩, List.mem_of_getElem? (i := 1121) (by decide +kernel), List.mem_of_getElem? (i := 1515) (by decide +kernel), List.mem_of_getElem? (i := 1516) (by decide +kernel)⟩
theorem lw_p70 : lw_okq (⟨"TileOfficeModel", "isMoved", "(III)Z"⟩, 55) := ⟨⟨by decide +kernel, by decide +kernel⟩, List.mem_of_getElem? (i := 1121) (by decide +kernel), List.mem_of_getElem? (i := 1519) (by decide +kernel), List.mem_of_getElem? (i := 1520) (by decide +kernel)⟩
theorem lw_p71 : lw_okq (⟨"TileOfficeModel", "wide", "(I)I"⟩, 55) := ⟨⟨by decide +kernel, by decide +kernel⟩, List.mem_of_getElem? (i := 1121) (by decide +kernel), List.mem_of_getElem? (i := 1523) (by decide +kernel), List.mem_of_getElem? (i := 1524) (by decide +kernel)⟩
theorem lw_p72 : lw_okq (⟨"TileOfficeModel", "movedCell", "(IIII)I"⟩, 55) := ⟨⟨by decide +kernel, by decide +kernel⟩, List.mem_of_getElem? (i := 1121) (by decide +kernel), List.mem_of_getElem? (i := 1527) (by decide +kernel), List.mem_of_getElem? (i := 1528) (by decide +kernel)⟩
theorem lw_p73 : lw_okq (⟨"TileOfficeModel", "isFound", "(IIIII)Z"⟩, 55) := ⟨⟨by decide +kernel, by decide +kernel⟩, List.mem_of_getElem? (i := 1121) (by decide +kernel), List.mem_of_getElem? (i := 1539) (by decide +kernel), List.mem_of_getElem? (i := 1540) (by decide +kernel)⟩
theorem lw_p74 : lw_okq (⟨"TileOfficeModel", "isPlace", "(III)Z"⟩, 55) := ⟨⟨by decide +kernel, by decide +kernel⟩, List.mem_of_getElem? (i := 1121) (by decide +kernel), List.mem_of_getElem? (i := 1551) (by decide +kernel), List.mem_of_getElem? (i := 1552) (by decide +kernel)⟩
theorem lw_p75 : lw_okq (⟨"TileOfficeModel", "isFloor", "(I)Z"⟩, 55) := ⟨⟨by decide +kernel, by decide +kernel⟩, List.mem_of_getElem? (i := 1121) (by decide +kernel), List.mem_of_getElem? (i := 1555) (by decide +kernel), List.mem_of_getElem? (i := 1556) (by decide +kernel)⟩
theorem lw_p76 : lw_okq (⟨"TileOfficeModel", "starts", "(I)Z"⟩, 55) := ⟨⟨by decide +kernel, by decide +kernel⟩, List.mem_of_getElem? (i := 1121) (by decide +kernel), List.mem_of_getElem? (i := 1571) (by decide +kernel), List.mem_of_getElem? (i := 1572) (by decide +kernel)⟩
theorem lw_p77 : lw_okq (⟨"TileOfficeModel", "mayLie", "(II)Z"⟩, 55) := ⟨⟨by decide +kernel, by decide +kernel⟩, List.mem_of_getElem? (i := 1121) (by decide +kernel), List.mem_of_getElem? (i := 1575) (by decide +kernel), List.mem_of_getElem? (i := 1576) (by decide +kernel)⟩
theorem lw_p78 : lw_okq (⟨"TileOfficeModel", "lyingAt", "(II)I"⟩, 55) := ⟨⟨by decide +kernel, by decide +kernel⟩, List.mem_of_getElem? (i := 1121) (by decide +kernel), List.mem_of_getElem? (i := 1579) (by decide +kernel), List.mem_of_getElem? (i := 1580) (by decide +kernel)⟩
theorem lw_p79 : lw_okq (⟨"TileOfficeModel", "search", "(IZ)V"⟩, 55) := ⟨⟨by decide +kernel, by decide +kernel⟩, List.mem_of_getElem? (i := 1121) (by decide +kernel), List.mem_of_getElem? (i := 1583) (by decide +kernel), List.mem_of_getElem? (i := 1584) (by decide +kernel)⟩
def lw_privs_5 : List (MethodName × Nat) := [(⟨"TileOfficeModel", "isRule", "(I)Z"⟩, 55), (⟨"TileOfficeModel", "grown", "(III)Z"⟩, 55), (⟨"TileOfficeModel", "block", "(IIII)I"⟩, 55), (⟨"TileOfficeModel", "fit", "(III)Z"⟩, 55), (⟨"TileOfficeModel", "comesAgain", "(III)Z"⟩, 55), (⟨"TileOfficeModel", "isFull", "(I)Z"⟩, 55), (⟨"TileOfficeModel", "isMoved", "(III)Z"⟩, 55), (⟨"TileOfficeModel", "wide", "(I)I"⟩, 55), (⟨"TileOfficeModel", "movedCell", "(IIII)I"⟩, 55), (⟨"TileOfficeModel", "isFound", "(IIIII)Z"⟩, 55), (⟨"TileOfficeModel", "isPlace", "(III)Z"⟩, 55), (⟨"TileOfficeModel", "isFloor", "(I)Z"⟩, 55), (⟨"TileOfficeModel", "starts", "(I)Z"⟩, 55), (⟨"TileOfficeModel", "mayLie", "(II)Z"⟩, 55), (⟨"TileOfficeModel", "lyingAt", "(II)I"⟩, 55), (⟨"TileOfficeModel", "search", "(IZ)V"⟩, 55)]
theorem lw_r5 : ∀ q ∈ lw_privs_5, lw_okq q := List.forall_mem_cons.mpr ⟨lw_p64, List.forall_mem_cons.mpr ⟨lw_p65, List.forall_mem_cons.mpr ⟨lw_p66, List.forall_mem_cons.mpr ⟨lw_p67, List.forall_mem_cons.mpr ⟨lw_p68, List.forall_mem_cons.mpr ⟨lw_p69, List.forall_mem_cons.mpr ⟨lw_p70, List.forall_mem_cons.mpr ⟨lw_p71, List.forall_mem_cons.mpr ⟨lw_p72, List.forall_mem_cons.mpr ⟨lw_p73, List.forall_mem_cons.mpr ⟨lw_p74, List.forall_mem_cons.mpr ⟨lw_p75, List.forall_mem_cons.mpr ⟨lw_p76, List.forall_mem_cons.mpr ⟨lw_p77, List.forall_mem_cons.mpr ⟨lw_p78, List.forall_mem_cons.mpr ⟨lw_p79, fun _ h => absurd h List.not_mem_nil⟩⟩⟩⟩⟩⟩⟩⟩⟩⟩⟩⟩⟩⟩⟩⟩
theorem lw_p80 : lw_okq (⟨"TileOfficeModel", "leastCost", "()I"⟩, 55) := ⟨⟨by decide +kernel, by decide +kernel⟩, List.mem_of_getElem? (i := 1121) (by decide +kernel), List.mem_of_getElem? (i := 1587) (by decide +kernel), List.mem_of_getElem? (i := 1588) (by decide +kernel)⟩
theorem lw_p81 : lw_okq (⟨"TileOfficeModel", "nextPlace", "()I"⟩, 55) := ⟨⟨by decide +kernel, by decide +kernel⟩, List.mem_of_getElem? (i := 1121) (by decide +kernel), List.mem_of_getElem? (i := 1591) (by decide +kernel), List.mem_of_getElem? (i := 1592) (by decide +kernel)⟩
theorem lw_p82 : lw_okq (⟨"TileOfficeModel", "fitting", "(I)I"⟩, 55) := ⟨⟨by decide +kernel, by decide +kernel⟩, List.mem_of_getElem? (i := 1121) (by decide +kernel), List.mem_of_getElem? (i := 1595) (by decide +kernel), List.mem_of_getElem? (i := 1596) (by decide +kernel)⟩
theorem lw_p83 : lw_okq (⟨"TileOfficeModel", "nextFitting", "(II)I"⟩, 55) := ⟨⟨by decide +kernel, by decide +kernel⟩, List.mem_of_getElem? (i := 1121) (by decide +kernel), List.mem_of_getElem? (i := 1599) (by decide +kernel), List.mem_of_getElem? (i := 1600) (by decide +kernel)⟩
theorem lw_p84 : lw_okq (⟨"TileOfficeModel", "show", "()V"⟩, 55) := ⟨⟨by decide +kernel, by decide +kernel⟩, List.mem_of_getElem? (i := 1121) (by decide +kernel), List.mem_of_getElem? (i := 1603) (by decide +kernel), List.mem_of_getElem? (i := 1604) (by decide +kernel)⟩
theorem lw_p85 : lw_okq (⟨"TileOfficeModel", "takeBack", "(I)V"⟩, 55) := ⟨⟨by decide +kernel, by decide +kernel⟩, List.mem_of_getElem? (i := 1121) (by decide +kernel), List.mem_of_getElem? (i := 1607) (by decide +kernel), List.mem_of_getElem? (i := 1608) (by decide +kernel)⟩
theorem lw_p86 : lw_okq (⟨"TileOfficeModel", "lay", "(II)V"⟩, 55) := ⟨⟨by decide +kernel, by decide +kernel⟩, List.mem_of_getElem? (i := 1121) (by decide +kernel), List.mem_of_getElem? (i := 1612) (by decide +kernel), List.mem_of_getElem? (i := 1613) (by decide +kernel)⟩
def lw_privs_6 : List (MethodName × Nat) := [(⟨"TileOfficeModel", "leastCost", "()I"⟩, 55), (⟨"TileOfficeModel", "nextPlace", "()I"⟩, 55), (⟨"TileOfficeModel", "fitting", "(I)I"⟩, 55), (⟨"TileOfficeModel", "nextFitting", "(II)I"⟩, 55), (⟨"TileOfficeModel", "show", "()V"⟩, 55), (⟨"TileOfficeModel", "takeBack", "(I)V"⟩, 55), (⟨"TileOfficeModel", "lay", "(II)V"⟩, 55)]
theorem lw_r6 : ∀ q ∈ lw_privs_6, lw_okq q := List.forall_mem_cons.mpr ⟨lw_p80, List.forall_mem_cons.mpr ⟨lw_p81, List.forall_mem_cons.mpr ⟨lw_p82, List.forall_mem_cons.mpr ⟨lw_p83, List.forall_mem_cons.mpr ⟨lw_p84, List.forall_mem_cons.mpr ⟨lw_p85, List.forall_mem_cons.mpr ⟨lw_p86, fun _ h => absurd h List.not_mem_nil⟩⟩⟩⟩⟩⟩⟩
def lw_privs : List (MethodName × Nat) := lw_privs_1 ++ (lw_privs_2 ++ (lw_privs_3 ++ (lw_privs_4 ++ (lw_privs_5 ++ (lw_privs_6)))))
def lw_tbl : List Cond := k2_sels lw_privs ++ tables_1
theorem lw_privs_ok : ∀ q ∈ lw_privs, lw_okq q := by
  show ∀ q ∈ lw_privs_1 ++ (lw_privs_2 ++ (lw_privs_3 ++ (lw_privs_4 ++ (lw_privs_5 ++ (lw_privs_6))))), lw_okq q
  exact List.forall_mem_append.mpr ⟨lw_r1, List.forall_mem_append.mpr ⟨lw_r2, List.forall_mem_append.mpr ⟨lw_r3, List.forall_mem_append.mpr ⟨lw_r4, List.forall_mem_append.mpr ⟨lw_r5, lw_r6⟩⟩⟩⟩⟩
/-! ===== BEGIN printed: names, fields, word lists, decode rows ===== -/
def RX0 : String := "TileOffice$Block"
def TX0 : u_T := fun k => match k with
  | 0 => ("TileOffice$Block", "rows", "I", false)
  | 1 => ("TileOffice$Block", "columns", "I", false)
  | _ => ("TileOffice$Block", "cells", "[I", true)
def tyX0 : Nat → FieldType := fun k => match k with
  | 0 => .int
  | 1 => .int
  | _ => .array .int
abbrev wsX00 : List Cond := u_ws RX0 TX0 3
theorem nmX0 : ∀ a, a < 3 → ∀ b, b < 3 → a ≠ b → (TX0 a).2.1 ≠ (TX0 b).2.1 := by decide +kernel
theorem tyX0_ok : ∀ k, k < 3 → parseFieldDescriptor (TX0 k).2.2.1 = some (tyX0 k) := by decide +kernel
abbrev cX0_init : ByteArray := prog_2_method_1_code
def yX0_init : MethodName := ⟨RX0, "<init>", "(I)V"⟩
abbrev cX0_mayBeRegion : ByteArray := prog_2_method_2_code
def yX0_mayBeRegion : MethodName := ⟨RX0, "mayBeRegion", "(II)Z"⟩
abbrev cX0_isNothing : ByteArray := prog_2_method_3_code
def yX0_isNothing : MethodName := ⟨RX0, "isNothing", "()Z"⟩
abbrev cX0_hasPlace : ByteArray := prog_2_method_4_code
def yX0_hasPlace : MethodName := ⟨RX0, "hasPlace", "(II)Z"⟩
abbrev cX0_cellAt : ByteArray := prog_2_method_5_code
def yX0_cellAt : MethodName := ⟨RX0, "cellAt", "(II)I"⟩
abbrev cX0_setCell : ByteArray := prog_2_method_6_code
def yX0_setCell : MethodName := ⟨RX0, "setCell", "(III)V"⟩
abbrev cX0_filledCells : ByteArray := prog_2_method_7_code
def yX0_filledCells : MethodName := ⟨RX0, "filledCells", "()I"⟩
abbrev cX0_takePattern : ByteArray := prog_2_method_8_code
def yX0_takePattern : MethodName := ⟨RX0, "takePattern", "(LTileOffice$Pattern;IIII)V"⟩
abbrev cX0_takeWhole : ByteArray := prog_2_method_9_code
def yX0_takeWhole : MethodName := ⟨RX0, "takeWhole", "(LTileOffice$Pattern;)V"⟩
abbrev cX0_takeMoved : ByteArray := prog_2_method_10_code
def yX0_takeMoved : MethodName := ⟨RX0, "takeMoved", "(LTileOffice$Block;ILTileOffice$Kinds;)V"⟩
def RX1 : String := "TileOffice$Board"
def TX1 : u_T := fun k => match k with
  | 0 => ("TileOffice$Board", "choices", "LTileOffice$Choices;", true)
  | 1 => ("TileOffice$Board", "openPlaces", "I", false)
  | 2 => ("TileOffice$Board", "rows", "I", false)
  | 3 => ("TileOffice$Board", "columns", "I", false)
  | 4 => ("TileOffice$Board", "codes", "[I", true)
  | 5 => ("TileOffice$Board", "open", "[Z", true)
  | 6 => ("TileOffice$Board", "wanted", "[I", true)
  | 7 => ("TileOffice$Board", "fitting", "[I", true)
  | 8 => ("TileOffice$Board", "left", "[I", true)
  | 9 => ("TileOffice$Board", "leftBits", "[J", true)
  | _ => ("TileOffice$Board", "single", "[I", true)
def tyX1 : Nat → FieldType := fun k => match k with
  | 0 => .object "TileOffice$Choices"
  | 1 => .int
  | 2 => .int
  | 3 => .int
  | 4 => .array .int
  | 5 => .array .boolean
  | 6 => .array .int
  | 7 => .array .int
  | 8 => .array .int
  | 9 => .array .long
  | _ => .array .int
abbrev wsX10 : List Cond := u_ws RX1 TX1 11
theorem nmX1 : ∀ a, a < 11 → ∀ b, b < 11 → a ≠ b → (TX1 a).2.1 ≠ (TX1 b).2.1 := by decide +kernel
theorem tyX1_ok : ∀ k, k < 11 → parseFieldDescriptor (TX1 k).2.2.1 = some (tyX1 k) := by decide +kernel
abbrev cX1_init : ByteArray := prog_3_method_1_code
def yX1_init : MethodName := ⟨RX1, "<init>", "(LTileOffice$Choices;)V"⟩
abbrev cX1_begin : ByteArray := prog_3_method_2_code
def yX1_begin : MethodName := ⟨RX1, "begin", "(LTileOffice$Floor;)V"⟩
abbrev cX1_has : ByteArray := prog_3_method_3_code
def yX1_has : MethodName := ⟨RX1, "has", "(I)Z"⟩
abbrev cX1_beside : ByteArray := prog_3_method_4_code
def yX1_beside : MethodName := ⟨RX1, "beside", "(II)I"⟩
abbrev cX1_codeAt : ByteArray := prog_3_method_5_code
def yX1_codeAt : MethodName := ⟨RX1, "codeAt", "(I)I"⟩
abbrev cX1_lookAround : ByteArray := prog_3_method_6_code
def yX1_lookAround : MethodName := ⟨RX1, "lookAround", "(I)V"⟩
abbrev cX1_givenOnesFit : ByteArray := prog_3_method_7_code
def yX1_givenOnesFit : MethodName := ⟨RX1, "givenOnesFit", "()Z"⟩
abbrev cX1_isWaiting : ByteArray := prog_3_method_8_code
def yX1_isWaiting : MethodName := ⟨RX1, "isWaiting", "(I)Z"⟩
abbrev cX1_fittingWord : ByteArray := prog_3_method_9_code
def yX1_fittingWord : MethodName := ⟨RX1, "fittingWord", "(II)J"⟩
abbrev cX1_recount : ByteArray := prog_3_method_10_code
def yX1_recount : MethodName := ⟨RX1, "recount", "(I)V"⟩
abbrev cX1_recountAll : ByteArray := prog_3_method_11_code
def yX1_recountAll : MethodName := ⟨RX1, "recountAll", "()V"⟩
abbrev cX1_scarcestPlace : ByteArray := prog_3_method_12_code
def yX1_scarcestPlace : MethodName := ⟨RX1, "scarcestPlace", "()I"⟩
abbrev cX1_fittingAfter : ByteArray := prog_3_method_13_code
def yX1_fittingAfter : MethodName := ⟨RX1, "fittingAfter", "(II)I"⟩
abbrev cX1_lay : ByteArray := prog_3_method_14_code
def yX1_lay : MethodName := ⟨RX1, "lay", "(II)V"⟩
abbrev cX1_lift : ByteArray := prog_3_method_15_code
def yX1_lift : MethodName := ⟨RX1, "lift", "(II)V"⟩
abbrev cX1_tellAround : ByteArray := prog_3_method_16_code
def yX1_tellAround : MethodName := ⟨RX1, "tellAround", "(I)V"⟩
abbrev cX1_changeLeft : ByteArray := prog_3_method_17_code
def yX1_changeLeft : MethodName := ⟨RX1, "changeLeft", "(II)Z"⟩
abbrev cX1_flipLeftBits : ByteArray := prog_3_method_18_code
def yX1_flipLeftBits : MethodName := ⟨RX1, "flipLeftBits", "(I)V"⟩
abbrev cX1_forceRounds : ByteArray := prog_3_method_19_code
def yX1_forceRounds : MethodName := ⟨RX1, "forceRounds", "()I"⟩
abbrev cX1_forceRound : ByteArray := prog_3_method_20_code
def yX1_forceRound : MethodName := ⟨RX1, "forceRound", "()I"⟩
abbrev cX1_showOn : ByteArray := prog_3_method_21_code
def yX1_showOn : MethodName := ⟨RX1, "showOn", "(LTileOffice$Floor;)V"⟩
def RX2 : String := "TileOffice$Cell"
def TX2 : u_T := fun k => match k with
  | _ => ("", "", "", false)
def tyX2 : Nat → FieldType := fun k => match k with
  | _ => .int
abbrev wsX20 : List Cond := u_ws RX2 TX2 0
theorem nmX2 : ∀ a, a < 0 → ∀ b, b < 0 → a ≠ b → (TX2 a).2.1 ≠ (TX2 b).2.1 := by decide +kernel
theorem tyX2_ok : ∀ k, k < 0 → parseFieldDescriptor (TX2 k).2.2.1 = some (tyX2 k) := by decide +kernel
abbrev cX2_tile : ByteArray := prog_4_method_2_code
def yX2_tile : MethodName := ⟨RX2, "tile", "(III)I"⟩
abbrev cX2_kindOf : ByteArray := prog_4_method_3_code
def yX2_kindOf : MethodName := ⟨RX2, "kindOf", "(I)I"⟩
abbrev cX2_moveOf : ByteArray := prog_4_method_4_code
def yX2_moveOf : MethodName := ⟨RX2, "moveOf", "(I)I"⟩
abbrev cX2_shadeOf : ByteArray := prog_4_method_5_code
def yX2_shadeOf : MethodName := ⟨RX2, "shadeOf", "(I)I"⟩
abbrev cX2_shaded : ByteArray := prog_4_method_6_code
def yX2_shaded : MethodName := ⟨RX2, "shaded", "(II)I"⟩
def RX3 : String := "TileOffice$Choices"
def TX3 : u_T := fun k => match k with
  | 0 => ("TileOffice$Choices", "kinds", "LTileOffice$Kinds;", true)
  | 1 => ("TileOffice$Choices", "size", "I", false)
  | 2 => ("TileOffice$Choices", "codes", "[I", true)
  | _ => ("TileOffice$Choices", "bits", "[J", true)
def tyX3 : Nat → FieldType := fun k => match k with
  | 0 => .object "TileOffice$Kinds"
  | 1 => .int
  | 2 => .array .int
  | _ => .array .long
abbrev wsX30 : List Cond := u_ws RX3 TX3 4
theorem nmX3 : ∀ a, a < 4 → ∀ b, b < 4 → a ≠ b → (TX3 a).2.1 ≠ (TX3 b).2.1 := by decide +kernel
theorem tyX3_ok : ∀ k, k < 4 → parseFieldDescriptor (TX3 k).2.2.1 = some (tyX3 k) := by decide +kernel
abbrev cX3_init : ByteArray := prog_5_method_1_code
def yX3_init : MethodName := ⟨RX3, "<init>", "(LTileOffice$Kinds;)V"⟩
abbrev cX3_gather : ByteArray := prog_5_method_2_code
def yX3_gather : MethodName := ⟨RX3, "gather", "(LTileOffice$Floor;)V"⟩
abbrev cX3_enter : ByteArray := prog_5_method_3_code
def yX3_enter : MethodName := ⟨RX3, "enter", "(I)V"⟩
abbrev cX3_mark : ByteArray := prog_5_method_4_code
def yX3_mark : MethodName := ⟨RX3, "mark", "(II)V"⟩
abbrev cX3_codeOf : ByteArray := prog_5_method_5_code
def yX3_codeOf : MethodName := ⟨RX3, "codeOf", "(I)I"⟩
abbrev cX3_kindOf : ByteArray := prog_5_method_6_code
def yX3_kindOf : MethodName := ⟨RX3, "kindOf", "(I)I"⟩
abbrev cX3_colourOf : ByteArray := prog_5_method_7_code
def yX3_colourOf : MethodName := ⟨RX3, "colourOf", "(II)I"⟩
abbrev cX3_withColour : ByteArray := prog_5_method_8_code
def yX3_withColour : MethodName := ⟨RX3, "withColour", "(III)J"⟩
def RX4 : String := "TileOffice$Floor"
def TX4 : u_T := fun k => match k with
  | 0 => ("TileOffice$Floor", "rows", "I", true)
  | 1 => ("TileOffice$Floor", "columns", "I", true)
  | 2 => ("TileOffice$Floor", "places", "[I", true)
  | 3 => ("TileOffice$Floor", "laid", "[I", true)
  | _ => ("TileOffice$Floor", "stocks", "[I", true)
def tyX4 : Nat → FieldType := fun k => match k with
  | 0 => .int
  | 1 => .int
  | 2 => .array .int
  | 3 => .array .int
  | _ => .array .int
abbrev wsX40 : List Cond := u_ws RX4 TX4 5
theorem nmX4 : ∀ a, a < 5 → ∀ b, b < 5 → a ≠ b → (TX4 a).2.1 ≠ (TX4 b).2.1 := by decide +kernel
theorem tyX4_ok : ∀ k, k < 5 → parseFieldDescriptor (TX4 k).2.2.1 = some (tyX4 k) := by decide +kernel
abbrev cX4_init : ByteArray := prog_6_method_1_code
def yX4_init : MethodName := ⟨RX4, "<init>", "(II)V"⟩
abbrev cX4_mayBe : ByteArray := prog_6_method_2_code
def yX4_mayBe : MethodName := ⟨RX4, "mayBe", "(II)Z"⟩
abbrev cX4_hasPlace : ByteArray := prog_6_method_3_code
def yX4_hasPlace : MethodName := ⟨RX4, "hasPlace", "(II)Z"⟩
abbrev cX4_setPlace : ByteArray := prog_6_method_4_code
def yX4_setPlace : MethodName := ⟨RX4, "setPlace", "(III)V"⟩
abbrev cX4_placeAt : ByteArray := prog_6_method_5_code
def yX4_placeAt : MethodName := ⟨RX4, "placeAt", "(I)I"⟩
abbrev cX4_shownAt : ByteArray := prog_6_method_6_code
def yX4_shownAt : MethodName := ⟨RX4, "shownAt", "(II)I"⟩
abbrev cX4_setStock : ByteArray := prog_6_method_7_code
def yX4_setStock : MethodName := ⟨RX4, "setStock", "(II)V"⟩
abbrev cX4_stockOf : ByteArray := prog_6_method_8_code
def yX4_stockOf : MethodName := ⟨RX4, "stockOf", "(I)I"⟩
abbrev cX4_showNothing : ByteArray := prog_6_method_9_code
def yX4_showNothing : MethodName := ⟨RX4, "showNothing", "()V"⟩
abbrev cX4_showAt : ByteArray := prog_6_method_10_code
def yX4_showAt : MethodName := ⟨RX4, "showAt", "(II)V"⟩
def RX5 : String := "TileOffice$History"
def TX5 : u_T := fun k => match k with
  | 0 => ("TileOffice$History", "count", "I", false)
  | 1 => ("TileOffice$History", "next", "I", false)
  | 2 => ("TileOffice$History", "changed", "[I", true)
  | 3 => ("TileOffice$History", "sizes", "[I", true)
  | _ => ("TileOffice$History", "ids", "[I", true)
def tyX5 : Nat → FieldType := fun k => match k with
  | 0 => .int
  | 1 => .int
  | 2 => .array .int
  | 3 => .array .int
  | _ => .array .int
abbrev wsX50 : List Cond := u_ws RX5 TX5 5
theorem nmX5 : ∀ a, a < 5 → ∀ b, b < 5 → a ≠ b → (TX5 a).2.1 ≠ (TX5 b).2.1 := by decide +kernel
theorem tyX5_ok : ∀ k, k < 5 → parseFieldDescriptor (TX5 k).2.2.1 = some (tyX5 k) := by decide +kernel
abbrev cX5_init : ByteArray := prog_7_method_1_code
def yX5_init : MethodName := ⟨RX5, "<init>", "()V"⟩
abbrev cX5_remember : ByteArray := prog_7_method_2_code
def yX5_remember : MethodName := ⟨RX5, "remember", "(ILTileOffice$Pattern;)V"⟩
abbrev cX5_latest : ByteArray := prog_7_method_3_code
def yX5_latest : MethodName := ⟨RX5, "latest", "()I"⟩
abbrev cX5_latestPattern : ByteArray := prog_7_method_4_code
def yX5_latestPattern : MethodName := ⟨RX5, "latestPattern", "()I"⟩
abbrev cX5_giveBack : ByteArray := prog_7_method_5_code
def yX5_giveBack : MethodName := ⟨RX5, "giveBack", "(LTileOffice$Pattern;)V"⟩
def RX6 : String := "TileOffice$Kinds"
def TX6 : u_T := fun k => match k with
  | 0 => ("TileOffice$Kinds", "count", "I", false)
  | 1 => ("TileOffice$Kinds", "edges", "[I", true)
  | 2 => ("TileOffice$Kinds", "turnsOf", "[I", true)
  | 3 => ("TileOffice$Kinds", "mirrored", "[Z", true)
  | 4 => ("TileOffice$Kinds", "costs", "[I", true)
  | _ => ("TileOffice$Kinds", "letters", "[J", true)
def tyX6 : Nat → FieldType := fun k => match k with
  | 0 => .int
  | 1 => .array .int
  | 2 => .array .int
  | 3 => .array .boolean
  | 4 => .array .int
  | _ => .array .long
abbrev wsX60 : List Cond := u_ws RX6 TX6 6
theorem nmX6 : ∀ a, a < 6 → ∀ b, b < 6 → a ≠ b → (TX6 a).2.1 ≠ (TX6 b).2.1 := by decide +kernel
theorem tyX6_ok : ∀ k, k < 6 → parseFieldDescriptor (TX6 k).2.2.1 = some (tyX6 k) := by decide +kernel
abbrev cX6_init : ByteArray := prog_8_method_1_code
def yX6_init : MethodName := ⟨RX6, "<init>", "()V"⟩
abbrev cX6_lettersOf : ByteArray := prog_8_method_2_code
def yX6_lettersOf : MethodName := ⟨RX6, "lettersOf", "(J)J"⟩
abbrev cX6_mayBe : ByteArray := prog_8_method_3_code
def yX6_mayBe : MethodName := ⟨RX6, "mayBe", "(III)Z"⟩
abbrev cX6_chained : ByteArray := prog_8_method_4_code
def yX6_chained : MethodName := ⟨RX6, "chained", "(II)I"⟩
abbrev cX6_isFull : ByteArray := prog_8_method_5_code
def yX6_isFull : MethodName := ⟨RX6, "isFull", "()Z"⟩
abbrev cX6_has : ByteArray := prog_8_method_6_code
def yX6_has : MethodName := ⟨RX6, "has", "(I)Z"⟩
abbrev cX6_add : ByteArray := prog_8_method_7_code
def yX6_add : MethodName := ⟨RX6, "add", "(IIZIJ)I"⟩
abbrev cX6_withLetters : ByteArray := prog_8_method_8_code
def yX6_withLetters : MethodName := ⟨RX6, "withLetters", "(J)I"⟩
abbrev cX6_costOf : ByteArray := prog_8_method_9_code
def yX6_costOf : MethodName := ⟨RX6, "costOf", "(I)I"⟩
abbrev cX6_lies : ByteArray := prog_8_method_10_code
def yX6_lies : MethodName := ⟨RX6, "lies", "(II)I"⟩
abbrev cX6_colour : ByteArray := prog_8_method_11_code
def yX6_colour : MethodName := ⟨RX6, "colour", "(III)I"⟩
abbrev cX6_cellOf : ByteArray := prog_8_method_12_code
def yX6_cellOf : MethodName := ⟨RX6, "cellOf", "(II)I"⟩
abbrev cX6_movedCell : ByteArray := prog_8_method_13_code
def yX6_movedCell : MethodName := ⟨RX6, "movedCell", "(II)I"⟩
abbrev cX6_meet : ByteArray := prog_8_method_14_code
def yX6_meet : MethodName := ⟨RX6, "meet", "(III)Z"⟩
def RX7 : String := "TileOffice$Pattern"
def TX7 : u_T := fun k => match k with
  | 0 => ("TileOffice$Pattern", "store", "LTileOffice$RowStore;", true)
  | 1 => ("TileOffice$Pattern", "ids", "[I", true)
  | _ => ("TileOffice$Pattern", "size", "I", false)
def tyX7 : Nat → FieldType := fun k => match k with
  | 0 => .object "TileOffice$RowStore"
  | 1 => .array .int
  | _ => .int
abbrev wsX70 : List Cond := u_ws RX7 TX7 3
theorem nmX7 : ∀ a, a < 3 → ∀ b, b < 3 → a ≠ b → (TX7 a).2.1 ≠ (TX7 b).2.1 := by decide +kernel
theorem tyX7_ok : ∀ k, k < 3 → parseFieldDescriptor (TX7 k).2.2.1 = some (tyX7 k) := by decide +kernel
abbrev cX7_init : ByteArray := prog_9_method_1_code
def yX7_init : MethodName := ⟨RX7, "<init>", "(LTileOffice$RowStore;)V"⟩
abbrev cX7_hasRow : ByteArray := prog_9_method_2_code
def yX7_hasRow : MethodName := ⟨RX7, "hasRow", "(J)Z"⟩
abbrev cX7_idAt : ByteArray := prog_9_method_3_code
def yX7_idAt : MethodName := ⟨RX7, "idAt", "(J)I"⟩
abbrev cX7_lengthAt : ByteArray := prog_9_method_4_code
def yX7_lengthAt : MethodName := ⟨RX7, "lengthAt", "(I)I"⟩
abbrev cX7_offsetAt : ByteArray := prog_9_method_5_code
def yX7_offsetAt : MethodName := ⟨RX7, "offsetAt", "(I)I"⟩
abbrev cX7_cellAt : ByteArray := prog_9_method_6_code
def yX7_cellAt : MethodName := ⟨RX7, "cellAt", "(JJ)I"⟩
abbrev cX7_insertId : ByteArray := prog_9_method_7_code
def yX7_insertId : MethodName := ⟨RX7, "insertId", "(II)V"⟩
abbrev cX7_removeId : ByteArray := prog_9_method_8_code
def yX7_removeId : MethodName := ⟨RX7, "removeId", "(I)V"⟩
abbrev cX7_renewRow : ByteArray := prog_9_method_9_code
def yX7_renewRow : MethodName := ⟨RX7, "renewRow", "(I)I"⟩
abbrev cX7_takeRows : ByteArray := prog_9_method_10_code
def yX7_takeRows : MethodName := ⟨RX7, "takeRows", "([III)V"⟩
abbrev cX7_placesOf : ByteArray := prog_9_method_11_code
def yX7_placesOf : MethodName := ⟨RX7, "placesOf", "(I)I"⟩
abbrev cX7_isFull : ByteArray := prog_9_method_12_code
def yX7_isFull : MethodName := ⟨RX7, "isFull", "()Z"⟩
abbrev cX7_mayGrow : ByteArray := prog_9_method_13_code
def yX7_mayGrow : MethodName := ⟨RX7, "mayGrow", "(II)Z"⟩
abbrev cX7_isBlock : ByteArray := prog_9_method_14_code
def yX7_isBlock : MethodName := ⟨RX7, "isBlock", "(LTileOffice$Block;)Z"⟩
abbrev cX7_bears : ByteArray := prog_9_method_15_code
def yX7_bears : MethodName := ⟨RX7, "bears", "(LTileOffice$Block;II)Z"⟩
def RX8 : String := "TileOffice$RowStore"
def TX8 : u_T := fun k => match k with
  | 0 => ("TileOffice$RowStore", "made", "I", false)
  | 1 => ("TileOffice$RowStore", "offsets", "[I", true)
  | _ => ("TileOffice$RowStore", "cells", "[[I", true)
def tyX8 : Nat → FieldType := fun k => match k with
  | 0 => .int
  | 1 => .array .int
  | _ => .array (.array .int)
abbrev wsX80 : List Cond := u_ws RX8 TX8 3
theorem nmX8 : ∀ a, a < 3 → ∀ b, b < 3 → a ≠ b → (TX8 a).2.1 ≠ (TX8 b).2.1 := by decide +kernel
theorem tyX8_ok : ∀ k, k < 3 → parseFieldDescriptor (TX8 k).2.2.1 = some (tyX8 k) := by decide +kernel
abbrev cX8_init : ByteArray := prog_10_method_1_code
def yX8_init : MethodName := ⟨RX8, "<init>", "()V"⟩
abbrev cX8_mayBe : ByteArray := prog_10_method_2_code
def yX8_mayBe : MethodName := ⟨RX8, "mayBe", "(II)Z"⟩
abbrev cX8_left : ByteArray := prog_10_method_3_code
def yX8_left : MethodName := ⟨RX8, "left", "()I"⟩
abbrev cX8_make : ByteArray := prog_10_method_4_code
def yX8_make : MethodName := ⟨RX8, "make", "(II)I"⟩
abbrev cX8_makeLike : ByteArray := prog_10_method_5_code
def yX8_makeLike : MethodName := ⟨RX8, "makeLike", "(I)I"⟩
abbrev cX8_enter : ByteArray := prog_10_method_6_code
def yX8_enter : MethodName := ⟨RX8, "enter", "([II)I"⟩
abbrev cX8_cellsOf : ByteArray := prog_10_method_7_code
def yX8_cellsOf : MethodName := ⟨RX8, "cellsOf", "(I)[I"⟩
abbrev cX8_offsetOf : ByteArray := prog_10_method_8_code
def yX8_offsetOf : MethodName := ⟨RX8, "offsetOf", "(I)I"⟩
abbrev cX8_lengthOf : ByteArray := prog_10_method_9_code
def yX8_lengthOf : MethodName := ⟨RX8, "lengthOf", "(I)I"⟩
abbrev cX8_cellAt : ByteArray := prog_10_method_10_code
def yX8_cellAt : MethodName := ⟨RX8, "cellAt", "(IJ)I"⟩
abbrev cX8_setCell : ByteArray := prog_10_method_11_code
def yX8_setCell : MethodName := ⟨RX8, "setCell", "(III)V"⟩
abbrev cX8_bears : ByteArray := prog_10_method_12_code
def yX8_bears : MethodName := ⟨RX8, "bears", "(IILTileOffice$Block;I)Z"⟩
def RX9 : String := "TileOffice$Rule"
def TX9 : u_T := fun k => match k with
  | 0 => ("TileOffice$Rule", "rows", "I", true)
  | 1 => ("TileOffice$Rule", "columns", "I", true)
  | 2 => ("TileOffice$Rule", "cells", "[I", true)
  | 3 => ("TileOffice$Rule", "even", "[J", true)
  | _ => ("TileOffice$Rule", "odd", "[J", true)
def tyX9 : Nat → FieldType := fun k => match k with
  | 0 => .int
  | 1 => .int
  | 2 => .array .int
  | 3 => .array .long
  | _ => .array .long
abbrev wsX90 : List Cond := u_ws RX9 TX9 5
theorem nmX9 : ∀ a, a < 5 → ∀ b, b < 5 → a ≠ b → (TX9 a).2.1 ≠ (TX9 b).2.1 := by decide +kernel
theorem tyX9_ok : ∀ k, k < 5 → parseFieldDescriptor (TX9 k).2.2.1 = some (tyX9 k) := by decide +kernel
abbrev cX9_init : ByteArray := prog_11_method_1_code
def yX9_init : MethodName := ⟨RX9, "<init>", "(II)V"⟩
abbrev cX9_mayBe : ByteArray := prog_11_method_2_code
def yX9_mayBe : MethodName := ⟨RX9, "mayBe", "(II)Z"⟩
abbrev cX9_hasPlace : ByteArray := prog_11_method_3_code
def yX9_hasPlace : MethodName := ⟨RX9, "hasPlace", "(II)Z"⟩
abbrev cX9_hasCell : ByteArray := prog_11_method_4_code
def yX9_hasCell : MethodName := ⟨RX9, "hasCell", "(III)Z"⟩
abbrev cX9_setCell : ByteArray := prog_11_method_5_code
def yX9_setCell : MethodName := ⟨RX9, "setCell", "(IIII)V"⟩
abbrev cX9_cellAt : ByteArray := prog_11_method_6_code
def yX9_cellAt : MethodName := ⟨RX9, "cellAt", "(III)I"⟩
abbrev cX9_childOf : ByteArray := prog_11_method_7_code
def yX9_childOf : MethodName := ⟨RX9, "childOf", "(IIILTileOffice$Kinds;)I"⟩
abbrev cX9_rowBefore : ByteArray := prog_11_method_8_code
def yX9_rowBefore : MethodName := ⟨RX9, "rowBefore", "(III)I"⟩
abbrev cX9_columnBefore : ByteArray := prog_11_method_9_code
def yX9_columnBefore : MethodName := ⟨RX9, "columnBefore", "(III)I"⟩
abbrev cX9_foretell : ByteArray := prog_11_method_10_code
def yX9_foretell : MethodName := ⟨RX9, "foretell", "(III)J"⟩
abbrev cX9_foretellStep : ByteArray := prog_11_method_11_code
def yX9_foretellStep : MethodName := ⟨RX9, "foretellStep", "([J[J)V"⟩
abbrev cX9_sum : ByteArray := prog_11_method_12_code
def yX9_sum : MethodName := ⟨RX9, "sum", "(JJ)J"⟩
def RX10 : String := "TileOffice$Search"
def TX10 : u_T := fun k => match k with
  | 0 => ("TileOffice$Search", "board", "LTileOffice$Board;", true)
  | 1 => ("TileOffice$Search", "kinds", "LTileOffice$Kinds;", true)
  | 2 => ("TileOffice$Search", "placeAt", "[I", true)
  | 3 => ("TileOffice$Search", "choiceAt", "[I", true)
  | 4 => ("TileOffice$Search", "depth", "I", false)
  | 5 => ("TileOffice$Search", "stepsLeft", "I", false)
  | 6 => ("TileOffice$Search", "leastCost", "Z", false)
  | 7 => ("TileOffice$Search", "cost", "I", false)
  | 8 => ("TileOffice$Search", "leastOfKinds", "I", false)
  | 9 => ("TileOffice$Search", "stepsOfLife", "I", false)
  | 10 => ("TileOffice$Search", "found", "I", false)
  | 11 => ("TileOffice$Search", "best", "I", false)
  | _ => ("TileOffice$Search", "known", "Z", false)
def tyX10 : Nat → FieldType := fun k => match k with
  | 0 => .object "TileOffice$Board"
  | 1 => .object "TileOffice$Kinds"
  | 2 => .array .int
  | 3 => .array .int
  | 4 => .int
  | 5 => .int
  | 6 => .boolean
  | 7 => .int
  | 8 => .int
  | 9 => .int
  | 10 => .int
  | 11 => .int
  | _ => .boolean
abbrev wsX100 : List Cond := u_ws RX10 TX10 13
theorem nmX10 : ∀ a, a < 13 → ∀ b, b < 13 → a ≠ b → (TX10 a).2.1 ≠ (TX10 b).2.1 := by decide +kernel
theorem tyX10_ok : ∀ k, k < 13 → parseFieldDescriptor (TX10 k).2.2.1 = some (tyX10 k) := by decide +kernel
abbrev cX10_init : ByteArray := prog_12_method_1_code
def yX10_init : MethodName := ⟨RX10, "<init>", "(LTileOffice$Board;LTileOffice$Kinds;)V"⟩
abbrev cX10_run : ByteArray := prog_12_method_2_code
def yX10_run : MethodName := ⟨RX10, "run", "(LTileOffice$Floor;IZ)V"⟩
abbrev cX10_leastCostOn : ByteArray := prog_12_method_3_code
def yX10_leastCostOn : MethodName := ⟨RX10, "leastCostOn", "(LTileOffice$Floor;)I"⟩
abbrev cX10_explore : ByteArray := prog_12_method_4_code
def yX10_explore : MethodName := ⟨RX10, "explore", "(LTileOffice$Floor;I)V"⟩
abbrev cX10_openDepth : ByteArray := prog_12_method_5_code
def yX10_openDepth : MethodName := ⟨RX10, "openDepth", "(I)V"⟩
abbrev cX10_openAgain : ByteArray := prog_12_method_6_code
def yX10_openAgain : MethodName := ⟨RX10, "openAgain", "(I)V"⟩
abbrev cX10_nextTry : ByteArray := prog_12_method_7_code
def yX10_nextTry : MethodName := ⟨RX10, "nextTry", "()I"⟩
abbrev cX10_isPassedOver : ByteArray := prog_12_method_8_code
def yX10_isPassedOver : MethodName := ⟨RX10, "isPassedOver", "(I)Z"⟩
abbrev cX10_noteTry : ByteArray := prog_12_method_9_code
def yX10_noteTry : MethodName := ⟨RX10, "noteTry", "(I)V"⟩
abbrev cX10_costOf : ByteArray := prog_12_method_10_code
def yX10_costOf : MethodName := ⟨RX10, "costOf", "(I)I"⟩
abbrev cX10_noteFill : ByteArray := prog_12_method_11_code
def yX10_noteFill : MethodName := ⟨RX10, "noteFill", "(LTileOffice$Floor;)V"⟩
def RX11 : String := "TileOffice"
def TX11 : u_T := fun k => match k with
  | 0 => ("TileOffice", "kinds", "LTileOffice$Kinds;", true)
  | 1 => ("TileOffice", "store", "LTileOffice$RowStore;", true)
  | 2 => ("TileOffice", "patterns", "[LTileOffice$Pattern;", true)
  | 3 => ("TileOffice", "patternCount", "I", false)
  | 4 => ("TileOffice", "history", "LTileOffice$History;", true)
  | 5 => ("TileOffice", "region", "LTileOffice$Block;", true)
  | 6 => ("TileOffice", "original", "LTileOffice$Block;", true)
  | 7 => ("TileOffice", "moved", "LTileOffice$Block;", true)
  | 8 => ("TileOffice", "foundMoves", "[I", true)
  | 9 => ("TileOffice", "rules", "[LTileOffice$Rule;", true)
  | 10 => ("TileOffice", "ruleCount", "I", false)
  | 11 => ("TileOffice", "floors", "[LTileOffice$Floor;", true)
  | 12 => ("TileOffice", "floorCount", "I", false)
  | 13 => ("TileOffice", "board", "LTileOffice$Board;", true)
  | _ => ("TileOffice", "search", "LTileOffice$Search;", true)
def tyX11 : Nat → FieldType := fun k => match k with
  | 0 => .object "TileOffice$Kinds"
  | 1 => .object "TileOffice$RowStore"
  | 2 => .array (.object "TileOffice$Pattern")
  | 3 => .int
  | 4 => .object "TileOffice$History"
  | 5 => .object "TileOffice$Block"
  | 6 => .object "TileOffice$Block"
  | 7 => .object "TileOffice$Block"
  | 8 => .array .int
  | 9 => .array (.object "TileOffice$Rule")
  | 10 => .int
  | 11 => .array (.object "TileOffice$Floor")
  | 12 => .int
  | 13 => .object "TileOffice$Board"
  | _ => .object "TileOffice$Search"
abbrev wsX110 : List Cond := u_ws RX11 TX11 15
theorem nmX11 : ∀ a, a < 15 → ∀ b, b < 15 → a ≠ b → (TX11 a).2.1 ≠ (TX11 b).2.1 := by decide +kernel
theorem tyX11_ok : ∀ k, k < 15 → parseFieldDescriptor (TX11 k).2.2.1 = some (tyX11 k) := by decide +kernel
abbrev cX11_init : ByteArray := prog_1_method_1_code
def yX11_init : MethodName := ⟨RX11, "<init>", "()V"⟩
abbrev cX11_kind : ByteArray := prog_1_method_2_code
def yX11_kind : MethodName := ⟨RX11, "kind", "(IIZIJ)I"⟩
abbrev cX11_named : ByteArray := prog_1_method_3_code
def yX11_named : MethodName := ⟨RX11, "named", "(J)I"⟩
abbrev cX11_edge : ByteArray := prog_1_method_4_code
def yX11_edge : MethodName := ⟨RX11, "edge", "(III)I"⟩
abbrev cX11_then : ByteArray := prog_1_method_5_code
def yX11_then : MethodName := ⟨RX11, "then", "(II)I"⟩
abbrev cX11_isMove : ByteArray := prog_1_method_6_code
def yX11_isMove : MethodName := ⟨RX11, "isMove", "(I)Z"⟩
abbrev cX11_isKindInMove : ByteArray := prog_1_method_7_code
def yX11_isKindInMove : MethodName := ⟨RX11, "isKindInMove", "(II)Z"⟩
abbrev cX11_pattern : ByteArray := prog_1_method_8_code
def yX11_pattern : MethodName := ⟨RX11, "pattern", "()I"⟩
abbrev cX11_keep : ByteArray := prog_1_method_9_code
def yX11_keep : MethodName := ⟨RX11, "keep", "(LTileOffice$Pattern;)I"⟩
abbrev cX11_patternOf : ByteArray := prog_1_method_10_code
def yX11_patternOf : MethodName := ⟨RX11, "patternOf", "(I)LTileOffice$Pattern;"⟩
abbrev cX11_insert : ByteArray := prog_1_method_11_code
def yX11_insert : MethodName := ⟨RX11, "insert", "(IIII)Z"⟩
abbrev cX11_remove : ByteArray := prog_1_method_12_code
def yX11_remove : MethodName := ⟨RX11, "remove", "(II)Z"⟩
abbrev cX11_move : ByteArray := prog_1_method_13_code
def yX11_move : MethodName := ⟨RX11, "move", "(III)Z"⟩
abbrev cX11_put : ByteArray := prog_1_method_14_code
def yX11_put : MethodName := ⟨RX11, "put", "(IIIII)Z"⟩
abbrev cX11_shade : ByteArray := prog_1_method_15_code
def yX11_shade : MethodName := ⟨RX11, "shade", "(IIII)Z"⟩
abbrev cX11_setCell : ByteArray := prog_1_method_16_code
def yX11_setCell : MethodName := ⟨RX11, "setCell", "(IIII)Z"⟩
abbrev cX11_at : ByteArray := prog_1_method_17_code
def yX11_at : MethodName := ⟨RX11, "at", "(IIII)I"⟩
abbrev cX11_row : ByteArray := prog_1_method_18_code
def yX11_row : MethodName := ⟨RX11, "row", "(III)I"⟩
abbrev cX11_placesOf : ByteArray := prog_1_method_19_code
def yX11_placesOf : MethodName := ⟨RX11, "placesOf", "(I)I"⟩
abbrev cX11_shares : ByteArray := prog_1_method_20_code
def yX11_shares : MethodName := ⟨RX11, "shares", "(IIII)Z"⟩
abbrev cX11_copy : ByteArray := prog_1_method_21_code
def yX11_copy : MethodName := ⟨RX11, "copy", "(I)I"⟩
abbrev cX11_region : ByteArray := prog_1_method_22_code
def yX11_region : MethodName := ⟨RX11, "region", "(IIIII)I"⟩
abbrev cX11_turn : ByteArray := prog_1_method_23_code
def yX11_turn : MethodName := ⟨RX11, "turn", "(I)Z"⟩
abbrev cX11_paste : ByteArray := prog_1_method_24_code
def yX11_paste : MethodName := ⟨RX11, "paste", "(III)I"⟩
abbrev cX11_cellsThatCome : ByteArray := prog_1_method_25_code
def yX11_cellsThatCome : MethodName := ⟨RX11, "cellsThatCome", "(LTileOffice$Pattern;III)I"⟩
abbrev cX11_comes : ByteArray := prog_1_method_26_code
def yX11_comes : MethodName := ⟨RX11, "comes", "(LTileOffice$Pattern;IIII)Z"⟩
abbrev cX11_pasteRows : ByteArray := prog_1_method_27_code
def yX11_pasteRows : MethodName := ⟨RX11, "pasteRows", "(LTileOffice$Pattern;II)V"⟩
abbrev cX11_rule : ByteArray := prog_1_method_28_code
def yX11_rule : MethodName := ⟨RX11, "rule", "(II)I"⟩
abbrev cX11_ruleOf : ByteArray := prog_1_method_29_code
def yX11_ruleOf : MethodName := ⟨RX11, "ruleOf", "(I)LTileOffice$Rule;"⟩
abbrev cX11_becomes : ByteArray := prog_1_method_30_code
def yX11_becomes : MethodName := ⟨RX11, "becomes", "(IIIIII)Z"⟩
abbrev cX11_grow : ByteArray := prog_1_method_31_code
def yX11_grow : MethodName := ⟨RX11, "grow", "(III)I"⟩
abbrev cX11_power : ByteArray := prog_1_method_32_code
def yX11_power : MethodName := ⟨RX11, "power", "(II)I"⟩
abbrev cX11_growsStraight : ByteArray := prog_1_method_33_code
def yX11_growsStraight : MethodName := ⟨RX11, "growsStraight", "(LTileOffice$Pattern;LTileOffice$Rule;I)Z"⟩
abbrev cX11_grownRow : ByteArray := prog_1_method_34_code
def yX11_grownRow : MethodName := ⟨RX11, "grownRow", "(LTileOffice$Pattern;LTileOffice$Rule;II)I"⟩
abbrev cX11_grownCell : ByteArray := prog_1_method_35_code
def yX11_grownCell : MethodName := ⟨RX11, "grownCell", "(LTileOffice$Pattern;LTileOffice$Rule;III)I"⟩
abbrev cX11_foretold : ByteArray := prog_1_method_36_code
def yX11_foretold : MethodName := ⟨RX11, "foretold", "(IIII)J"⟩
abbrev cX11_count : ByteArray := prog_1_method_37_code
def yX11_count : MethodName := ⟨RX11, "count", "(II)I"⟩
abbrev cX11_fits : ByteArray := prog_1_method_38_code
def yX11_fits : MethodName := ⟨RX11, "fits", "(I)I"⟩
abbrev cX11_period : ByteArray := prog_1_method_39_code
def yX11_period : MethodName := ⟨RX11, "period", "(II)I"⟩
abbrev cX11_repeats : ByteArray := prog_1_method_40_code
def yX11_repeats : MethodName := ⟨RX11, "repeats", "(LTileOffice$Pattern;II)Z"⟩
abbrev cX11_kept : ByteArray := prog_1_method_41_code
def yX11_kept : MethodName := ⟨RX11, "kept", "(I)I"⟩
abbrev cX11_congruent : ByteArray := prog_1_method_42_code
def yX11_congruent : MethodName := ⟨RX11, "congruent", "(II)I"⟩
abbrev cX11_find : ByteArray := prog_1_method_43_code
def yX11_find : MethodName := ⟨RX11, "find", "(III)I"⟩
abbrev cX11_markFound : ByteArray := prog_1_method_44_code
def yX11_markFound : MethodName := ⟨RX11, "markFound", "(LTileOffice$Pattern;I)V"⟩
abbrev cX11_foundAt : ByteArray := prog_1_method_45_code
def yX11_foundAt : MethodName := ⟨RX11, "foundAt", "(I)I"⟩
abbrev cX11_bitAt : ByteArray := prog_1_method_46_code
def yX11_bitAt : MethodName := ⟨RX11, "bitAt", "(II)I"⟩
abbrev cX11_floor : ByteArray := prog_1_method_47_code
def yX11_floor : MethodName := ⟨RX11, "floor", "(II)I"⟩
abbrev cX11_floorOf : ByteArray := prog_1_method_48_code
def yX11_floorOf : MethodName := ⟨RX11, "floorOf", "(I)LTileOffice$Floor;"⟩
abbrev cX11_place : ByteArray := prog_1_method_49_code
def yX11_place : MethodName := ⟨RX11, "place", "(IIIII)Z"⟩
abbrev cX11_stock : ByteArray := prog_1_method_50_code
def yX11_stock : MethodName := ⟨RX11, "stock", "(III)Z"⟩
abbrev cX11_fill : ByteArray := prog_1_method_51_code
def yX11_fill : MethodName := ⟨RX11, "fill", "(I)I"⟩
abbrev cX11_fills : ByteArray := prog_1_method_52_code
def yX11_fills : MethodName := ⟨RX11, "fills", "(II)I"⟩
abbrev cX11_cheapest : ByteArray := prog_1_method_53_code
def yX11_cheapest : MethodName := ⟨RX11, "cheapest", "(I)I"⟩
abbrev cX11_forced : ByteArray := prog_1_method_54_code
def yX11_forced : MethodName := ⟨RX11, "forced", "(I)I"⟩
abbrev cX11_shown : ByteArray := prog_1_method_55_code
def yX11_shown : MethodName := ⟨RX11, "shown", "(III)I"⟩
abbrev cX11_undo : ByteArray := prog_1_method_56_code
def yX11_undo : MethodName := ⟨RX11, "undo", "()I"⟩
abbrev cX11_about : ByteArray := prog_1_method_57_code
def yX11_about : MethodName := ⟨RX11, "about", "(I)I"⟩
def RX12 : String := "TileOfficeModel"
def TX12 : u_T := fun k => match k with
  | 0 => ("TileOfficeModel", "kEdges", "[I", true)
  | 1 => ("TileOfficeModel", "kTurns", "[I", true)
  | 2 => ("TileOfficeModel", "kCost", "[I", true)
  | 3 => ("TileOfficeModel", "kMirrors", "[Z", true)
  | 4 => ("TileOfficeModel", "kName", "[J", true)
  | 5 => ("TileOfficeModel", "kinds", "I", false)
  | 6 => ("TileOfficeModel", "rLength", "[I", true)
  | 7 => ("TileOfficeModel", "rOffset", "[I", true)
  | 8 => ("TileOfficeModel", "rCells", "[I", true)
  | 9 => ("TileOfficeModel", "made", "I", false)
  | 10 => ("TileOfficeModel", "pRows", "[I", true)
  | 11 => ("TileOfficeModel", "pMany", "[I", true)
  | 12 => ("TileOfficeModel", "patterns", "I", false)
  | 13 => ("TileOfficeModel", "uPattern", "[I", true)
  | 14 => ("TileOfficeModel", "uMany", "[I", true)
  | 15 => ("TileOfficeModel", "uRows", "[I", true)
  | 16 => ("TileOfficeModel", "undos", "I", false)
  | 17 => ("TileOfficeModel", "undoAt", "I", false)
  | 18 => ("TileOfficeModel", "fromI", "I", false)
  | 19 => ("TileOfficeModel", "fromJ", "I", false)
  | 20 => ("TileOfficeModel", "gCells", "[I", true)
  | 21 => ("TileOfficeModel", "gOther", "[I", true)
  | 22 => ("TileOfficeModel", "gIs", "[Z", true)
  | 23 => ("TileOfficeModel", "gOtherIs", "[Z", true)
  | 24 => ("TileOfficeModel", "gRows", "I", false)
  | 25 => ("TileOfficeModel", "gCols", "I", false)
  | 26 => ("TileOfficeModel", "uSizeR", "[I", true)
  | 27 => ("TileOfficeModel", "uSizeC", "[I", true)
  | 28 => ("TileOfficeModel", "uBlock", "[I", true)
  | 29 => ("TileOfficeModel", "rules", "I", false)
  | 30 => ("TileOfficeModel", "wCells", "[I", true)
  | 31 => ("TileOfficeModel", "wLength", "[I", true)
  | 32 => ("TileOfficeModel", "wOffset", "[I", true)
  | 33 => ("TileOfficeModel", "now", "[J", true)
  | 34 => ("TileOfficeModel", "then", "[J", true)
  | 35 => ("TileOfficeModel", "fRows", "[I", true)
  | 36 => ("TileOfficeModel", "fCols", "[I", true)
  | 37 => ("TileOfficeModel", "fTold", "[I", true)
  | 38 => ("TileOfficeModel", "fLies", "[I", true)
  | 39 => ("TileOfficeModel", "fStock", "[I", true)
  | 40 => ("TileOfficeModel", "floors", "I", false)
  | 41 => ("TileOfficeModel", "life", "I", false)
  | 42 => ("TileOfficeModel", "its", "I", false)
  | 43 => ("TileOfficeModel", "opens", "I", false)
  | 44 => ("TileOfficeModel", "lying", "[I", true)
  | 45 => ("TileOfficeModel", "left", "[I", true)
  | 46 => ("TileOfficeModel", "open", "[I", true)
  | 47 => ("TileOfficeModel", "dPlace", "[I", true)
  | 48 => ("TileOfficeModel", "dTried", "[I", true)
  | 49 => ("TileOfficeModel", "depth", "I", false)
  | 50 => ("TileOfficeModel", "steps", "I", false)
  | 51 => ("TileOfficeModel", "found", "I", false)
  | 52 => ("TileOfficeModel", "cost", "I", false)
  | 53 => ("TileOfficeModel", "best", "I", false)
  | _ => ("TileOfficeModel", "isOut", "Z", false)
def tyX12 : Nat → FieldType := fun k => match k with
  | 0 => .array .int
  | 1 => .array .int
  | 2 => .array .int
  | 3 => .array .boolean
  | 4 => .array .long
  | 5 => .int
  | 6 => .array .int
  | 7 => .array .int
  | 8 => .array .int
  | 9 => .int
  | 10 => .array .int
  | 11 => .array .int
  | 12 => .int
  | 13 => .array .int
  | 14 => .array .int
  | 15 => .array .int
  | 16 => .int
  | 17 => .int
  | 18 => .int
  | 19 => .int
  | 20 => .array .int
  | 21 => .array .int
  | 22 => .array .boolean
  | 23 => .array .boolean
  | 24 => .int
  | 25 => .int
  | 26 => .array .int
  | 27 => .array .int
  | 28 => .array .int
  | 29 => .int
  | 30 => .array .int
  | 31 => .array .int
  | 32 => .array .int
  | 33 => .array .long
  | 34 => .array .long
  | 35 => .array .int
  | 36 => .array .int
  | 37 => .array .int
  | 38 => .array .int
  | 39 => .array .int
  | 40 => .int
  | 41 => .int
  | 42 => .int
  | 43 => .int
  | 44 => .array .int
  | 45 => .array .int
  | 46 => .array .int
  | 47 => .array .int
  | 48 => .array .int
  | 49 => .int
  | 50 => .int
  | 51 => .int
  | 52 => .int
  | 53 => .int
  | _ => .boolean
abbrev wsX120 : List Cond := u_ws RX12 TX12 55
theorem nmX12 : ∀ a, a < 55 → ∀ b, b < 55 → a ≠ b → (TX12 a).2.1 ≠ (TX12 b).2.1 := by decide +kernel
theorem tyX12_ok : ∀ k, k < 55 → parseFieldDescriptor (TX12 k).2.2.1 = some (tyX12 k) := by decide +kernel
abbrev cX12_init : ByteArray := prog_14_method_1_code
def yX12_init : MethodName := ⟨RX12, "<init>", "()V"⟩
abbrev cX12_plain : ByteArray := prog_14_method_2_code
def yX12_plain : MethodName := ⟨RX12, "plain", "(J)J"⟩
abbrev cX12_kind : ByteArray := prog_14_method_3_code
def yX12_kind : MethodName := ⟨RX12, "kind", "(IIZIJ)I"⟩
abbrev cX12_named : ByteArray := prog_14_method_4_code
def yX12_named : MethodName := ⟨RX12, "named", "(J)I"⟩
abbrev cX12_isMove : ByteArray := prog_14_method_5_code
def yX12_isMove : MethodName := ⟨RX12, "isMove", "(I)Z"⟩
abbrev cX12_isKind : ByteArray := prog_14_method_6_code
def yX12_isKind : MethodName := ⟨RX12, "isKind", "(I)Z"⟩
abbrev cX12_lies : ByteArray := prog_14_method_7_code
def yX12_lies : MethodName := ⟨RX12, "lies", "(II)I"⟩
abbrev cX12_thenMove : ByteArray := prog_14_method_8_code
def yX12_thenMove : MethodName := ⟨RX12, "thenMove", "(II)I"⟩
abbrev cX12_then : ByteArray := prog_14_method_9_code
def yX12_then : MethodName := ⟨RX12, "then", "(II)I"⟩
abbrev cX12_colour : ByteArray := prog_14_method_10_code
def yX12_colour : MethodName := ⟨RX12, "colour", "(III)I"⟩
abbrev cX12_edge : ByteArray := prog_14_method_11_code
def yX12_edge : MethodName := ⟨RX12, "edge", "(III)I"⟩
abbrev cX12_cell : ByteArray := prog_14_method_12_code
def yX12_cell : MethodName := ⟨RX12, "cell", "(III)I"⟩
abbrev cX12_kindOf : ByteArray := prog_14_method_13_code
def yX12_kindOf : MethodName := ⟨RX12, "kindOf", "(I)I"⟩
abbrev cX12_moveOf : ByteArray := prog_14_method_14_code
def yX12_moveOf : MethodName := ⟨RX12, "moveOf", "(I)I"⟩
abbrev cX12_shadeOf : ByteArray := prog_14_method_15_code
def yX12_shadeOf : MethodName := ⟨RX12, "shadeOf", "(I)I"⟩
abbrev cX12_moved : ByteArray := prog_14_method_16_code
def yX12_moved : MethodName := ⟨RX12, "moved", "(II)I"⟩
abbrev cX12_fit : ByteArray := prog_14_method_17_code
def yX12_fit : MethodName := ⟨RX12, "fit", "(III)Z"⟩
abbrev cX12_isPattern : ByteArray := prog_14_method_18_code
def yX12_isPattern : MethodName := ⟨RX12, "isPattern", "(I)Z"⟩
abbrev cX12_rowOf : ByteArray := prog_14_method_19_code
def yX12_rowOf : MethodName := ⟨RX12, "rowOf", "(II)I"⟩
abbrev cX12_newRow : ByteArray := prog_14_method_20_code
def yX12_newRow : MethodName := ⟨RX12, "newRow", "(II)I"⟩
abbrev cX12_has : ByteArray := prog_14_method_21_code
def yX12_has : MethodName := ⟨RX12, "has", "(IJJ)Z"⟩
abbrev cX12_placeOf : ByteArray := prog_14_method_22_code
def yX12_placeOf : MethodName := ⟨RX12, "placeOf", "(III)I"⟩
abbrev cX12_cellAt : ByteArray := prog_14_method_23_code
def yX12_cellAt : MethodName := ⟨RX12, "cellAt", "(III)I"⟩
abbrev cX12_keep : ByteArray := prog_14_method_24_code
def yX12_keep : MethodName := ⟨RX12, "keep", "(I)V"⟩
abbrev cX12_undo : ByteArray := prog_14_method_25_code
def yX12_undo : MethodName := ⟨RX12, "undo", "()I"⟩
abbrev cX12_pattern : ByteArray := prog_14_method_26_code
def yX12_pattern : MethodName := ⟨RX12, "pattern", "()I"⟩
abbrev cX12_insert : ByteArray := prog_14_method_27_code
def yX12_insert : MethodName := ⟨RX12, "insert", "(IIII)Z"⟩
abbrev cX12_takeRow : ByteArray := prog_14_method_28_code
def yX12_takeRow : MethodName := ⟨RX12, "takeRow", "(II)V"⟩
abbrev cX12_remove : ByteArray := prog_14_method_29_code
def yX12_remove : MethodName := ⟨RX12, "remove", "(II)Z"⟩
abbrev cX12_move : ByteArray := prog_14_method_30_code
def yX12_move : MethodName := ⟨RX12, "move", "(III)Z"⟩
abbrev cX12_own : ByteArray := prog_14_method_31_code
def yX12_own : MethodName := ⟨RX12, "own", "(II)V"⟩
abbrev cX12_sets : ByteArray := prog_14_method_32_code
def yX12_sets : MethodName := ⟨RX12, "sets", "(IIII)Z"⟩
abbrev cX12_put : ByteArray := prog_14_method_33_code
def yX12_put : MethodName := ⟨RX12, "put", "(IIIII)Z"⟩
abbrev cX12_shade : ByteArray := prog_14_method_34_code
def yX12_shade : MethodName := ⟨RX12, "shade", "(IIII)Z"⟩
abbrev cX12_at : ByteArray := prog_14_method_35_code
def yX12_at : MethodName := ⟨RX12, "at", "(IIII)I"⟩
abbrev cX12_row : ByteArray := prog_14_method_36_code
def yX12_row : MethodName := ⟨RX12, "row", "(III)I"⟩
abbrev cX12_shares : ByteArray := prog_14_method_37_code
def yX12_shares : MethodName := ⟨RX12, "shares", "(IIII)Z"⟩
abbrev cX12_copy : ByteArray := prog_14_method_38_code
def yX12_copy : MethodName := ⟨RX12, "copy", "(I)I"⟩
abbrev cX12_comesFrom : ByteArray := prog_14_method_39_code
def yX12_comesFrom : MethodName := ⟨RX12, "comesFrom", "(IIIII)V"⟩
abbrev cX12_region : ByteArray := prog_14_method_40_code
def yX12_region : MethodName := ⟨RX12, "region", "(IIIII)I"⟩
abbrev cX12_turn : ByteArray := prog_14_method_41_code
def yX12_turn : MethodName := ⟨RX12, "turn", "(I)Z"⟩
abbrev cX12_paste : ByteArray := prog_14_method_42_code
def yX12_paste : MethodName := ⟨RX12, "paste", "(III)I"⟩
abbrev cX12_comes : ByteArray := prog_14_method_43_code
def yX12_comes : MethodName := ⟨RX12, "comes", "(IIII)I"⟩
abbrev cX12_isRule : ByteArray := prog_14_method_44_code
def yX12_isRule : MethodName := ⟨RX12, "isRule", "(I)Z"⟩
abbrev cX12_rule : ByteArray := prog_14_method_45_code
def yX12_rule : MethodName := ⟨RX12, "rule", "(II)I"⟩
abbrev cX12_becomes : ByteArray := prog_14_method_46_code
def yX12_becomes : MethodName := ⟨RX12, "becomes", "(IIIIII)Z"⟩
abbrev cX12_grow : ByteArray := prog_14_method_47_code
def yX12_grow : MethodName := ⟨RX12, "grow", "(III)I"⟩
abbrev cX12_grown : ByteArray := prog_14_method_48_code
def yX12_grown : MethodName := ⟨RX12, "grown", "(III)Z"⟩
abbrev cX12_block : ByteArray := prog_14_method_49_code
def yX12_block : MethodName := ⟨RX12, "block", "(IIII)I"⟩
abbrev cX12_sum : ByteArray := prog_14_method_50_code
def yX12_sum : MethodName := ⟨RX12, "sum", "(JJ)J"⟩
abbrev cX12_foretold : ByteArray := prog_14_method_51_code
def yX12_foretold : MethodName := ⟨RX12, "foretold", "(IIII)J"⟩
abbrev cX12_count : ByteArray := prog_14_method_52_code
def yX12_count : MethodName := ⟨RX12, "count", "(II)I"⟩
abbrev cX12_fits : ByteArray := prog_14_method_53_code
def yX12_fits : MethodName := ⟨RX12, "fits", "(I)I"⟩
abbrev cX12_period : ByteArray := prog_14_method_54_code
def yX12_period : MethodName := ⟨RX12, "period", "(II)I"⟩
abbrev cX12_comesAgain : ByteArray := prog_14_method_55_code
def yX12_comesAgain : MethodName := ⟨RX12, "comesAgain", "(III)Z"⟩
abbrev cX12_isFull : ByteArray := prog_14_method_56_code
def yX12_isFull : MethodName := ⟨RX12, "isFull", "(I)Z"⟩
abbrev cX12_wide : ByteArray := prog_14_method_57_code
def yX12_wide : MethodName := ⟨RX12, "wide", "(I)I"⟩
abbrev cX12_movedCell : ByteArray := prog_14_method_58_code
def yX12_movedCell : MethodName := ⟨RX12, "movedCell", "(IIII)I"⟩
abbrev cX12_isMoved : ByteArray := prog_14_method_59_code
def yX12_isMoved : MethodName := ⟨RX12, "isMoved", "(III)Z"⟩
abbrev cX12_kept : ByteArray := prog_14_method_60_code
def yX12_kept : MethodName := ⟨RX12, "kept", "(I)I"⟩
abbrev cX12_congruent : ByteArray := prog_14_method_61_code
def yX12_congruent : MethodName := ⟨RX12, "congruent", "(II)I"⟩
abbrev cX12_isFound : ByteArray := prog_14_method_62_code
def yX12_isFound : MethodName := ⟨RX12, "isFound", "(IIIII)Z"⟩
abbrev cX12_find : ByteArray := prog_14_method_63_code
def yX12_find : MethodName := ⟨RX12, "find", "(III)I"⟩
abbrev cX12_isFloor : ByteArray := prog_14_method_64_code
def yX12_isFloor : MethodName := ⟨RX12, "isFloor", "(I)Z"⟩
abbrev cX12_floor : ByteArray := prog_14_method_65_code
def yX12_floor : MethodName := ⟨RX12, "floor", "(II)I"⟩
abbrev cX12_isPlace : ByteArray := prog_14_method_66_code
def yX12_isPlace : MethodName := ⟨RX12, "isPlace", "(III)Z"⟩
abbrev cX12_place : ByteArray := prog_14_method_67_code
def yX12_place : MethodName := ⟨RX12, "place", "(IIIII)Z"⟩
abbrev cX12_stock : ByteArray := prog_14_method_68_code
def yX12_stock : MethodName := ⟨RX12, "stock", "(III)Z"⟩
abbrev cX12_shown : ByteArray := prog_14_method_69_code
def yX12_shown : MethodName := ⟨RX12, "shown", "(III)I"⟩
abbrev cX12_lyingAt : ByteArray := prog_14_method_70_code
def yX12_lyingAt : MethodName := ⟨RX12, "lyingAt", "(II)I"⟩
abbrev cX12_mayLie : ByteArray := prog_14_method_71_code
def yX12_mayLie : MethodName := ⟨RX12, "mayLie", "(II)Z"⟩
abbrev cX12_nextFitting : ByteArray := prog_14_method_72_code
def yX12_nextFitting : MethodName := ⟨RX12, "nextFitting", "(II)I"⟩
abbrev cX12_fitting : ByteArray := prog_14_method_73_code
def yX12_fitting : MethodName := ⟨RX12, "fitting", "(I)I"⟩
abbrev cX12_starts : ByteArray := prog_14_method_74_code
def yX12_starts : MethodName := ⟨RX12, "starts", "(I)Z"⟩
abbrev cX12_show : ByteArray := prog_14_method_75_code
def yX12_show : MethodName := ⟨RX12, "show", "()V"⟩
abbrev cX12_nextPlace : ByteArray := prog_14_method_76_code
def yX12_nextPlace : MethodName := ⟨RX12, "nextPlace", "()I"⟩
abbrev cX12_lay : ByteArray := prog_14_method_77_code
def yX12_lay : MethodName := ⟨RX12, "lay", "(II)V"⟩
abbrev cX12_takeBack : ByteArray := prog_14_method_78_code
def yX12_takeBack : MethodName := ⟨RX12, "takeBack", "(I)V"⟩
abbrev cX12_leastCost : ByteArray := prog_14_method_79_code
def yX12_leastCost : MethodName := ⟨RX12, "leastCost", "()I"⟩
abbrev cX12_search : ByteArray := prog_14_method_80_code
def yX12_search : MethodName := ⟨RX12, "search", "(IZ)V"⟩
abbrev cX12_fill : ByteArray := prog_14_method_81_code
def yX12_fill : MethodName := ⟨RX12, "fill", "(I)I"⟩
abbrev cX12_fills : ByteArray := prog_14_method_82_code
def yX12_fills : MethodName := ⟨RX12, "fills", "(II)I"⟩
abbrev cX12_cheapest : ByteArray := prog_14_method_83_code
def yX12_cheapest : MethodName := ⟨RX12, "cheapest", "(I)I"⟩
abbrev cX12_forced : ByteArray := prog_14_method_84_code
def yX12_forced : MethodName := ⟨RX12, "forced", "(I)I"⟩
abbrev cX12_about : ByteArray := prog_14_method_85_code
def yX12_about : MethodName := ⟨RX12, "about", "(I)I"⟩
def RJx8e188 : String := "java/lang/Cloneable"
def TJx8e188 : u_T := fun k => match k with
  | _ => ("", "", "", false)
def tyJx8e188 : Nat → FieldType := fun k => match k with
  | _ => .int
abbrev wsJx8e1880 : List Cond := u_ws RJx8e188 TJx8e188 0
theorem nmJx8e188 : ∀ a, a < 0 → ∀ b, b < 0 → a ≠ b → (TJx8e188 a).2.1 ≠ (TJx8e188 b).2.1 := by decide +kernel
theorem tyJx8e188_ok : ∀ k, k < 0 → parseFieldDescriptor (TJx8e188 k).2.2.1 = some (tyJx8e188 k) := by decide +kernel
def RJ6 : String := "java/lang/Integer"
def TJ6 : u_T := fun k => match k with
  | _ => ("", "", "", false)
def tyJ6 : Nat → FieldType := fun k => match k with
  | _ => .int
abbrev wsJ60 : List Cond := u_ws RJ6 TJ6 0
theorem nmJ6 : ∀ a, a < 0 → ∀ b, b < 0 → a ≠ b → (TJ6 a).2.1 ≠ (TJ6 b).2.1 := by decide +kernel
theorem tyJ6_ok : ∀ k, k < 0 → parseFieldDescriptor (TJ6 k).2.2.1 = some (tyJ6 k) := by decide +kernel
abbrev cJ6_numberOfTrailingZeros_0f7a4 : ByteArray := prog_16_method_48_code
def yJ6_numberOfTrailingZeros_0f7a4 : MethodName := ⟨RJ6, "numberOfTrailingZeros", "(I)I"⟩
abbrev cJ6_bitCount_0f7a4 : ByteArray := prog_16_method_49_code
def yJ6_bitCount_0f7a4 : MethodName := ⟨RJ6, "bitCount", "(I)I"⟩
def RJ13 : String := "java/lang/Long"
def TJ13 : u_T := fun k => match k with
  | _ => ("", "", "", false)
def tyJ13 : Nat → FieldType := fun k => match k with
  | _ => .int
abbrev wsJ130 : List Cond := u_ws RJ13 TJ13 0
theorem nmJ13 : ∀ a, a < 0 → ∀ b, b < 0 → a ≠ b → (TJ13 a).2.1 ≠ (TJ13 b).2.1 := by decide +kernel
theorem tyJ13_ok : ∀ k, k < 0 → parseFieldDescriptor (TJ13 k).2.2.1 = some (tyJ13 k) := by decide +kernel
abbrev cJ13_numberOfTrailingZeros_95d88 : ByteArray := prog_17_method_49_code
def yJ13_numberOfTrailingZeros_95d88 : MethodName := ⟨RJ13, "numberOfTrailingZeros", "(J)I"⟩
abbrev cJ13_bitCount_95d88 : ByteArray := prog_17_method_50_code
def yJ13_bitCount_95d88 : MethodName := ⟨RJ13, "bitCount", "(J)I"⟩
def RJ9 : String := "java/lang/Math"
def TJ9 : u_T := fun k => match k with
  | _ => ("", "", "", false)
def tyJ9 : Nat → FieldType := fun k => match k with
  | _ => .int
abbrev wsJ90 : List Cond := u_ws RJ9 TJ9 0
theorem nmJ9 : ∀ a, a < 0 → ∀ b, b < 0 → a ≠ b → (TJ9 a).2.1 ≠ (TJ9 b).2.1 := by decide +kernel
theorem tyJ9_ok : ∀ k, k < 0 → parseFieldDescriptor (TJ9 k).2.2.1 = some (tyJ9 k) := by decide +kernel
abbrev cJ9_floorDiv_7cf53 : ByteArray := prog_18_method_47_code
def yJ9_floorDiv_7cf53 : MethodName := ⟨RJ9, "floorDiv", "(II)I"⟩
abbrev cJ9_floorMod_7cf53 : ByteArray := prog_18_method_50_code
def yJ9_floorMod_7cf53 : MethodName := ⟨RJ9, "floorMod", "(II)I"⟩
abbrev cJ9_max_7cf53 : ByteArray := prog_18_method_65_code
def yJ9_max_7cf53 : MethodName := ⟨RJ9, "max", "(II)I"⟩
abbrev cJ9_min_7cf53 : ByteArray := prog_18_method_69_code
def yJ9_min_7cf53 : MethodName := ⟨RJ9, "min", "(II)I"⟩
def RJ10 : String := "java/lang/System"
def TJ10 : u_T := fun k => match k with
  | _ => ("", "", "", false)
def tyJ10 : Nat → FieldType := fun k => match k with
  | _ => .int
abbrev wsJ100 : List Cond := u_ws RJ10 TJ10 0
theorem nmJ10 : ∀ a, a < 0 → ∀ b, b < 0 → a ≠ b → (TJ10 a).2.1 ≠ (TJ10 b).2.1 := by decide +kernel
theorem tyJ10_ok : ∀ k, k < 0 → parseFieldDescriptor (TJ10 k).2.2.1 = some (tyJ10 k) := by decide +kernel
def RJ7 : String := "java/util/Arrays"
def TJ7 : u_T := fun k => match k with
  | _ => ("", "", "", false)
def tyJ7 : Nat → FieldType := fun k => match k with
  | _ => .int
abbrev wsJ70 : List Cond := u_ws RJ7 TJ7 0
theorem nmJ7 : ∀ a, a < 0 → ∀ b, b < 0 → a ≠ b → (TJ7 a).2.1 ≠ (TJ7 b).2.1 := by decide +kernel
theorem tyJ7_ok : ∀ k, k < 0 → parseFieldDescriptor (TJ7 k).2.2.1 = some (tyJ7 k) := by decide +kernel
abbrev cJ7_fill_d0a16 : ByteArray := prog_20_method_101_code
def yJ7_fill_d0a16 : MethodName := ⟨RJ7, "fill", "([JJ)V"⟩
abbrev cJ7_fill_53178 : ByteArray := prog_20_method_103_code
def yJ7_fill_53178 : MethodName := ⟨RJ7, "fill", "([II)V"⟩
def RL : String := "TileOfficeLaw"
abbrev cL_law : ByteArray := code
def yL_law : MethodName := ⟨RL, "law", "([I)Z"⟩
end
section
/-! The small machine: typed cells numbered from 0 on. 'Ex' says: from here the machine comes to the method's end with Q of its answer and its heap. -/
abbrev mj_H : Type := List (Nat × Nat) × (Nat → Nat → Int32) × (Nat → Nat → Int64) × (Nat → Nat → Option Nat)
def mT (h : mj_H) (a : Nat) : Option (Nat × Nat) := h.1[a]?
def mI (h : mj_H) : Nat → Nat → Int32 := h.2.1
def mL (h : mj_H) : Nat → Nat → Int64 := h.2.2.1
def mR (h : mj_H) : Nat → Nat → Option Nat := h.2.2.2
def mN (h : mj_H) : Nat := h.1.length
def mZ (h : mj_H) : Nat := (h.1.map (fun q => q.2)).sum
def wA (h : mj_H) (a : Nat) (f : Nat → Int32) : mj_H := (h.1, va_up h.2.1 a f, h.2.2)
def wI (h : mj_H) (a k : Nat) (v : Int32) : mj_H := wA h a (va_up (mI h a) k v)
def wL (h : mj_H) (a k : Nat) (v : Int64) : mj_H := (h.1, h.2.1, va_up h.2.2.1 a (va_up (h.2.2.1 a) k v), h.2.2.2)
def wR (h : mj_H) (a k : Nat) (v : Option Nat) : mj_H := (h.1, h.2.1, h.2.2.1, va_up h.2.2.2 a (va_up (h.2.2.2 a) k v))
def mNew (h : mj_H) (t n : Nat) : mj_H := (h.1 ++ [(t, n)], va_up h.2.1 h.1.length (fun _ => 0), va_up h.2.2.1 h.1.length (fun _ => 0), va_up h.2.2.2 h.1.length (fun _ => none))
/-- a method: its name, bytes, locals, answer, frames and words of room below it -/
abbrev mj_Y : Type := MethodName × ByteArray × Nat × Option FieldType × Nat × Nat
abbrev mj_S : Type := Nat × (Nat → Int32)
abbrev mj_L : Type := List (Option Value)
abbrev mj_classes : List vw_C := [(RX0, TX0, 3), (RX1, TX1, 11), (RX3, TX3, 4), (RX4, TX4, 5), (RX5, TX5, 5), (RX6, TX6, 6), (RX7, TX7, 3), (RX8, TX8, 3), (RX9, TX9, 5), (RX10, TX10, 13), (RX11, TX11, 15), (RX12, TX12, 55)]
def mj_ft (c : Nat) : Nat → FieldType := match c with
  | 0 => tyX0
  | 1 => tyX1
  | 2 => tyX3
  | 3 => tyX4
  | 4 => tyX5
  | 5 => tyX6
  | 6 => tyX7
  | 7 => tyX8
  | 8 => tyX9
  | 9 => tyX10
  | 10 => tyX11
  | _ => tyX12
def mj_isR (t : FieldType) : Bool := match t with
  | .object _ => true
  | .array _ => true
  | _ => false
abbrev mj_tys (cA : Nat → ClassId) : List (ClassId × FieldType) := [(cA 0, .int), (cA 1, .long), (cA 2, .boolean), (cA 3, .array .int), (cA 4, .object RX7), (cA 5, .object RX9), (cA 6, .object RX4)]
def mj_v (b base : Nat) (v : Value) : Value := match v with
  | .ref a => .ref (base + a)
  | .float _ => .ref b
  | v => v
def mj_q (base : Nat) (R : Nat → Option Nat) : Nat → Option Nat := fun j => (R j).map (fun a => base + a)
def mj_fs (base c n : Nat) (I : Nat → Int32) (R : Nat → Option Nat) : List Value := (List.range n).map (fun k => if mj_isR (mj_ft c k) = true then va_rf (mj_q base R k) else .int (I k))
def mj_e (base : Nat) (cA : Nat → ClassId) (t : Nat × Nat) (I : Nat → Int32) (L : Nat → Int64) (R : Nat → Option Nat) : va_E :=
  if t.1 = 0 then .inl (cA 0, t.2, .inl I)
  else if t.1 = 1 then .inl (cA 1, t.2, .inr (.inl L))
  else if t.1 = 2 then .inl (cA 2, t.2, .inl I)
  else if t.1 < 10 then .inl (cA t.1, t.2, .inr (.inr (.inr (.inr (mj_q base R)))))
  else .inr (t.1 - 10, mj_fs base (t.1 - 10) t.2 I R)
def mj_w (base : Nat) (cA : Nat → ClassId) (h : mj_H) : va_W := h.1.mapIdx (fun k t => (base + k, mj_e base cA t (mI h k) (mL h k) (mR h k)))
def mj_P (base : Nat) (D : va_G) (cA : Nat → ClassId) (h : mj_H) (H : Heap) : Prop := va_P D mj_classes (mj_w base cA h) H ∧ H.size = base + mN h
def mj_l (b base : Nat) (ls : mj_L) (rls : Array Slot) : Prop := rls.size = ls.length ∧ lv_wf rls ∧ ∀ (k : Nat) (v : Value), ls[k]? = some (some v) → rls[k]? = some (.val (mj_v b base v))
def lw_g : List Cond := lw_tbl.filter goodWord
def mj_AOA (U : State) : Prop := (Cond.arrayOver (.array .int)).before #[] U = true
def mj_N (U : State) : Prop := va_Nw (.methodLinkNest "TileOffice" 9 yX6_init "TileOffice") U ∧ va_Nw (.methodLinkNest "TileOffice" 41 yX8_init "TileOffice") U ∧ va_Nw (.methodLinkNest "TileOffice" 54 yX5_init "TileOffice") U ∧
  va_AO RX7 U ∧ va_AO RX9 U ∧ va_AO RX4 U ∧ mj_AOA U ∧ va_Nw (.castable "[I" "java/lang/Cloneable") U
/-- what holds of the machine all along a method's run -/
def mj_C (S : mj_S) (μ : mj_Y) (p : Program) (R : Room) (s : State) (m : MethodId) (args : Array Value) (meth : Method) (c : Code) (b base : Nat) (D : va_G) (cA : Nat → ClassId) : Prop :=
  p.tables.exec = Jvm.exec ∧ c.code = μ.2.1 ∧ c.maxLocals = μ.2.2.1 ∧ s.vm.findClass μ.1.cls = some m.cls ∧ meth.sig.returnType = μ.2.2.2.1 ∧ meth.locks = false ∧ (μ.1.name = "<init>" → meth.name = "<init>") ∧
  (∀ w ∈ lw_g, w.before args s = true) ∧ mj_N s ∧ va_K D mj_classes (mj_tys cA) s ∧ μ.2.2.2.2.1 ≤ R.frames ∧ μ.2.2.2.2.2 ≤ R.locals ∧ base ≤ s.heap.size ∧ (μ.1 = yL_law → va_X b S.1 S.2 s s.heap ∧ b < base)
/-- the return instruction at pc fits the answer -/
def mj_ret (μ : mj_Y) (pc : Nat) (r : Option Value) : Prop := match r with
  | none => μ.2.2.2.1 = none ∧ decode μ.2.1 pc = .ok (.return_, 1)
  | some (.int v) => ∃ ty, μ.2.2.2.1 = some ty ∧ narrow ty (.int v) = .int v ∧ decode μ.2.1 pc = .ok (.ireturn, 1)
  | some (.long _) => μ.2.2.2.1 = some .long ∧ decode μ.2.1 pc = .ok (.lreturn, 1)
  | some (.ref _) => ∃ ty, μ.2.2.2.1 = some ty ∧ ((∃ n, ty = .object n) ∨ ∃ t, ty = .array t) ∧ decode μ.2.1 pc = .ok (.areturn, 1)
  | some .null => ∃ ty, μ.2.2.2.1 = some ty ∧ ((∃ n, ty = .object n) ∨ ∃ t, ty = .array t) ∧ decode μ.2.1 pc = .ok (.areturn, 1)
  | _ => False
/-- what is known of the end: at a return with that answer and heap the goal is met -/
def mj_E (μ : mj_Y) (r : Option Value) (h' : mj_H) (p : Program) (l : Launch) (e : Env) (R : Room) (s : State) (m : MethodId) (args : Array Value) (below : List Frame) (meth : Method) (c : Code) (b base : Nat) (D : va_G) (cA : Nat → ClassId) (n0 z0 : Nat) (Q : State → Prop) : Prop :=
  ∀ (H : Heap) (locs : List Loc) (rls : Array Slot) (pc : Nat), mj_P base D cA h' H → va_S (fun q => base ≤ q) s.heap H locs → mj_ret μ pc r → W p l e R s m args below meth c H locs (mN h' - n0) (mZ h' - z0) Q (F0 m pc rls (r.toList.map (mj_v b base)))
def mj_Go (S : mj_S) (μ : mj_Y) (pc : Nat) (ls : mj_L) (st : List Value) (h : mj_H) (r : Option Value) (h' : mj_H) : Prop :=
  mN h ≤ mN h' ∧ mZ h ≤ mZ h' ∧ ∀ (p : Program) (l : Launch) (e : Env) (R : Room) (s : State) (m : MethodId) (args : Array Value) (below : List Frame) (meth : Method) (c : Code) (b base : Nat) (D : va_G) (cA : Nat → ClassId), mj_C S μ p R s m args meth c b base D cA →
    ∀ (n0 z0 : Nat) (Q : State → Prop), n0 ≤ mN h → z0 ≤ mZ h → mN h' - n0 ≤ R.cells → mZ h' - z0 ≤ R.slots → mj_E μ r h' p l e R s m args below meth c b base D cA n0 z0 Q →
    ∀ (H : Heap) (locs : List Loc) (rls : Array Slot), mj_P base D cA h H → va_S (fun q => base ≤ q) s.heap H locs → mj_l b base ls rls → W p l e R s m args below meth c H locs (mN h - n0) (mZ h - z0) Q (F0 m pc rls (st.map (mj_v b base)))
def Ex (S : mj_S) (μ : mj_Y) (pc : Nat) (ls : mj_L) (st : List Value) (h : mj_H) (Q : Option Value → mj_H → Prop) : Prop := ∃ (r : Option Value) (h' : mj_H), Q r h' ∧ mj_Go S μ pc ls st h r h'
theorem mj_w_get {base : Nat} {cA : Nat → ClassId} {h : mj_H} {a : Nat} {t : Nat × Nat} (ht : mT h a = some t) : (mj_w base cA h)[a]? = some (base + a, mj_e base cA t (mI h a) (mL h a) (mR h a)) := by
  unfold mj_w
  rw [List.getElem?_mapIdx]
  unfold mT at ht
  rw [ht]; rfl
theorem mj_w_D {base : Nat} {cA : Nat → ClassId} {h : mj_H} : va_D (fun q => base ≤ q) (mj_w base cA h) := by
  have key : ∀ (k : Nat) (q : Nat × va_E), (mj_w base cA h)[k]? = some q → q.1 = base + k := by
    intro k q hq
    unfold mj_w at hq
    rw [List.getElem?_mapIdx] at hq
    cases hz : h.1[k]? with
    | none => rw [hz] at hq; cases hq
    | some t => rw [hz] at hq; cases hq; rfl
  refine ⟨fun i j p q h1 h2 h3 => ?_, fun k q hq => ?_⟩
  · have e1 := key i p h1
    have e2 := key j q h2
    omega
  · have e1 := key k q hq
    show base ≤ q.1
    omega
theorem mj_w_set {base : Nat} {cA : Nat → ClassId} {h h1 : mj_H} {a : Nat} {t : Nat × Nat} {e : va_E} (ht : mT h a = some t) (hT : h1.1 = h.1) (he : mj_e base cA t (mI h1 a) (mL h1 a) (mR h1 a) = e) (ho : ∀ k, k ≠ a → mI h1 k = mI h k ∧ mL h1 k = mL h k ∧ mR h1 k = mR h k) : (mj_w base cA h).set a (base + a, e) = mj_w base cA h1 := by
  apply List.ext_getElem?
  intro i
  by_cases hi : i = a
  · subst hi
    have hlt : i < (mj_w base cA h).length := (List.getElem?_eq_some_iff.mp (mj_w_get (base := base) (cA := cA) ht)).1
    rw [List.getElem?_set_self hlt, mj_w_get (h := h1) (t := t) (by unfold mT; rw [hT]; exact ht), he]
  · rw [List.getElem?_set_ne (Ne.symm hi)]
    unfold mj_w
    rw [List.getElem?_mapIdx, List.getElem?_mapIdx, hT]
    obtain ⟨a1, a2, a3⟩ := ho i hi
    rw [a1, a2, a3]
theorem mj_w_new {base : Nat} {cA : Nat → ClassId} {h : mj_H} {t n : Nat} : mj_w base cA (mNew h t n) = mj_w base cA h ++ [(base + mN h, mj_e base cA (t, n) (fun _ => 0) (fun _ => 0) (fun _ => none))] := by
  apply List.ext_getElem?
  intro i
  have hlen : (mj_w base cA h).length = h.1.length := by unfold mj_w; rw [List.length_mapIdx]
  rcases Nat.lt_trichotomy i h.1.length with hi | hi | hi
  · rw [List.getElem?_append_left (by omega)]
    unfold mj_w
    rw [List.getElem?_mapIdx, List.getElem?_mapIdx]
    have hne : i ≠ h.1.length := by omega
    simp [mNew, mI, mL, mR, va_up, List.getElem?_append_left hi, hne]
  · subst hi
    rw [List.getElem?_append_right (by omega), hlen]
    unfold mj_w
    rw [List.getElem?_mapIdx]
    simp [mNew, mI, mL, mR, mN, va_up]
  · rw [List.getElem?_append_right (by omega), hlen]
    unfold mj_w
    rw [List.getElem?_mapIdx]
    rw [List.getElem?_eq_none (by simp [mNew]; omega), List.getElem?_eq_none (by simp; omega)]
    rfl
theorem mN_new (h : mj_H) (t n : Nat) : mN (mNew h t n) = mN h + 1 := by simp [mN, mNew]
theorem mZ_new (h : mj_H) (t n : Nat) : mZ (mNew h t n) = mZ h + n := by simp [mZ, mNew]
theorem mT_new_old {h : mj_H} {t n a : Nat} {x : Nat × Nat} (ha : mT h a = some x) : mT (mNew h t n) a = some x := by
  have hl := (List.getElem?_eq_some_iff.mp ha).1
  unfold mT at ha ⊢
  simp only [mNew]
  rw [List.getElem?_append_left hl]; exact ha
theorem mT_new_self (h : mj_H) (t n : Nat) : mT (mNew h t n) (mN h) = some (t, n) := by simp [mT, mNew, mN]
/-- a step that leaves the heap as it is -/
theorem mj_pure {S : mj_S} {μ : mj_Y} {pc pc' : Nat} {ls ls' : mj_L} {st st' : List Value} {h : mj_H} {Q0 : Option Value → mj_H → Prop}
    (hs : ∀ {p : Program} {l : Launch} {e : Env} {R : Room} {s : State} {m : MethodId} {args : Array Value} {below : List Frame} {meth : Method} {c : Code} {b base : Nat} {D : va_G} {cA : Nat → ClassId} {H : Heap} {locs : List Loc} {cells slots : Nat} {Q : State → Prop} {rls : Array Slot},
      mj_C S μ p R s m args meth c b base D cA → mj_P base D cA h H → va_S (fun q => base ≤ q) s.heap H locs → mj_l b base ls rls → (∀ rls' : Array Slot, mj_l b base ls' rls' → W p l e R s m args below meth c H locs cells slots Q (F0 m pc' rls' (st'.map (mj_v b base)))) → W p l e R s m args below meth c H locs cells slots Q (F0 m pc rls (st.map (mj_v b base))))
    (k : Ex S μ pc' ls' st' h Q0) : Ex S μ pc ls st h Q0 := by
  obtain ⟨r, h', q, g1, g2, g⟩ := k
  refine ⟨r, h', q, g1, g2, ?_⟩
  intro p l e R s m args below meth c b base D cA C n0 z0 Q hn hz hc hl E H locs rls P Sv Lr
  exact hs C P Sv Lr (fun rls' L' => g p l e R s m args below meth c b base D cA C n0 z0 Q hn hz hc hl E H locs rls' P Sv L')
/-- a step that writes, and makes nothing -/
theorem mj_wr {S : mj_S} {μ : mj_Y} {pc pc' : Nat} {ls : mj_L} {st st' : List Value} {h h1 : mj_H} {Q0 : Option Value → mj_H → Prop} (hT : h1.1 = h.1)
    (hs : ∀ {p : Program} {l : Launch} {e : Env} {R : Room} {s : State} {m : MethodId} {args : Array Value} {below : List Frame} {meth : Method} {c : Code} {b base : Nat} {D : va_G} {cA : Nat → ClassId} {H : Heap} {locs : List Loc} {cells slots : Nat} {Q : State → Prop} {rls : Array Slot},
      mj_C S μ p R s m args meth c b base D cA → mj_P base D cA h H → va_S (fun q => base ≤ q) s.heap H locs → mj_l b base ls rls → (∀ (H1 : Heap) (locs1 : List Loc), mj_P base D cA h1 H1 → va_S (fun q => base ≤ q) s.heap H1 locs1 → W p l e R s m args below meth c H1 locs1 cells slots Q (F0 m pc' rls (st'.map (mj_v b base)))) → W p l e R s m args below meth c H locs cells slots Q (F0 m pc rls (st.map (mj_v b base))))
    (k : Ex S μ pc' ls st' h1 Q0) : Ex S μ pc ls st h Q0 := by
  obtain ⟨r, h', q, g1, g2, g⟩ := k
  have eN : mN h1 = mN h := by unfold mN; rw [hT]
  have eZ : mZ h1 = mZ h := by unfold mZ; rw [hT]
  refine ⟨r, h', q, eN ▸ g1, eZ ▸ g2, ?_⟩
  intro p l e R s m args below meth c b base D cA C n0 z0 Q hn hz hc hl E H locs rls P Sv Lr
  refine hs C P Sv Lr (fun H1 locs1 P1 S1 => ?_)
  have z := g p l e R s m args below meth c b base D cA C n0 z0 Q (by rw [eN]; exact hn) (by rw [eZ]; exact hz) hc hl E H1 locs1 rls P1 S1 Lr
  rw [eN, eZ] at z
  exact z
/-- a step that makes a cell -/
theorem mj_mk {S : mj_S} {μ : mj_Y} {pc pc' : Nat} {ls : mj_L} {st st' : List Value} {h h1 : mj_H} {Q0 : Option Value → mj_H → Prop} {n : Nat} (hN : mN h1 = mN h + 1) (hZ : mZ h1 = mZ h + n)
    (hs : ∀ {p : Program} {l : Launch} {e : Env} {R : Room} {s : State} {m : MethodId} {args : Array Value} {below : List Frame} {meth : Method} {c : Code} {b base : Nat} {D : va_G} {cA : Nat → ClassId} {H : Heap} {locs : List Loc} {cells slots : Nat} {Q : State → Prop} {rls : Array Slot},
      mj_C S μ p R s m args meth c b base D cA → mj_P base D cA h H → va_S (fun q => base ≤ q) s.heap H locs → mj_l b base ls rls → cells + 1 ≤ R.cells → slots + n ≤ R.slots → (∀ (H1 : Heap), mj_P base D cA h1 H1 → va_S (fun q => base ≤ q) s.heap H1 locs → W p l e R s m args below meth c H1 locs (cells + 1) (slots + n) Q (F0 m pc' rls (st'.map (mj_v b base)))) → W p l e R s m args below meth c H locs cells slots Q (F0 m pc rls (st.map (mj_v b base))))
    (k : Ex S μ pc' ls st' h1 Q0) : Ex S μ pc ls st h Q0 := by
  obtain ⟨r, h', q, g1, g2, g⟩ := k
  refine ⟨r, h', q, by omega, by omega, ?_⟩
  intro p l e R s m args below meth c b base D cA C n0 z0 Q hn hz hc hl E H locs rls P Sv Lr
  refine hs C P Sv Lr (by omega) (by omega) (fun H1 P1 S1 => ?_)
  have z := g p l e R s m args below meth c b base D cA C n0 z0 Q (by omega) (by omega) hc hl E H1 locs rls P1 S1 Lr
  rw [hN, hZ, show mN h + 1 - n0 = mN h - n0 + 1 by omega, show mZ h + n - z0 = mZ h - z0 + n by omega] at z
  exact z
end
section
/-! Locals, and a row an instruction. -/
theorem mj_v_cat (b base : Nat) (v : Value) : (mj_v b base v).category = v.category := by cases v <;> rfl
def mj_lv (b base : Nat) (ls : mj_L) : List (Nat × Value) := (List.range ls.length).filterMap (fun k => match ls[k]? with
  | some (some v) => some (k, mj_v b base v)
  | _ => none)
theorem mj_lv_mem {b base : Nat} {ls : mj_L} {k : Nat} {v : Value} (h : ls[k]? = some (some v)) : (k, mj_v b base v) ∈ mj_lv b base ls := by
  unfold mj_lv
  rw [List.mem_filterMap]
  have hl := (List.getElem?_eq_some_iff.mp h).1
  exact ⟨k, List.mem_range.mpr hl, by rw [h]⟩
theorem mj_lv_of {b base : Nat} {ls : mj_L} {q : Nat × Value} (h : q ∈ mj_lv b base ls) : ∃ v, ls[q.1]? = some (some v) ∧ q.2 = mj_v b base v := by
  unfold mj_lv at h
  rw [List.mem_filterMap] at h
  obtain ⟨k, -, hk⟩ := h
  split at hk
  · rename_i v hv
    cases hk
    exact ⟨v, hv, rfl⟩
  · cases hk
theorem mj_l_has {b base : Nat} {ls : mj_L} {rls : Array Slot} (h : mj_l b base ls rls) : lv_has rls ls.length (mj_lv b base ls) := by
  refine ⟨h.1, h.2.1, fun q hq => ?_⟩
  obtain ⟨v, h1, h2⟩ := mj_lv_of hq
  rw [h2]
  exact h.2.2 _ _ h1
/-- a long just ahead of a local that is set is gone -/
def mj_clr (ls : mj_L) (k : Nat) : mj_L := match k with
  | 0 => ls
  | j + 1 => match ls[j]? with
    | some (some (.long _)) => ls.set j none
    | some (some (.double _)) => ls.set j none
    | _ => ls
def mj_st1 (ls : mj_L) (k : Nat) (v : Value) : mj_L := (mj_clr ls k).set k (some v)
def mj_st2 (ls : mj_L) (k : Nat) (v : Value) : mj_L := ((mj_clr ls k).set k (some v)).set (k + 1) none
theorem mj_clr_len (ls : mj_L) (k : Nat) : (mj_clr ls k).length = ls.length := by
  unfold mj_clr
  split
  · rfl
  · split <;> simp
theorem mj_clr_get {ls : mj_L} {k i : Nat} {v : Value} (hi : i ≠ k) (h : (mj_clr ls k)[i]? = some (some v)) : ls[i]? = some (some v) ∧ ¬ (i + 1 = k ∧ v.category = 2) := by
  cases k with
  | zero => exact ⟨h, by omega⟩
  | succ j =>
    simp only [mj_clr] at h
    by_cases hij : i = j
    · subst hij
      have key : ls[i]? = some (some v) ∧ v.category ≠ 2 := by
        split at h
        · rw [List.getElem?_set] at h
          simp at h
        · rw [List.getElem?_set] at h
          simp at h
        · rename_i n1 n2
          refine ⟨h, fun hc => ?_⟩
          cases v <;> first | (simp [Value.category] at hc; done) | exact n1 _ h | exact n2 _ h
      exact ⟨key.1, fun z => key.2 z.2⟩
    · have e : (match ls[j]? with
        | some (some (Value.long _)) => ls.set j none
        | some (some (Value.double _)) => ls.set j none
        | _ => ls)[i]? = ls[i]? := by
        split <;> first | rfl | (rw [List.getElem?_set_ne (Ne.symm hij)])
      rw [e] at h
      exact ⟨h, by omega⟩
theorem mj_l_st1 {b base : Nat} {ls : mj_L} {i : Nat} {v : Value} {rls' : Array Slot} (h : lv_has rls' ls.length ((i, mj_v b base v) :: (mj_lv b base ls).filter (fun q => !(q.1 == i) && !(q.1 + 1 == i && q.2.category == 2)))) (hi : i < ls.length) : mj_l b base (mj_st1 ls i v) rls' := by
  refine ⟨by rw [h.1]; unfold mj_st1; rw [List.length_set, mj_clr_len], h.2.1, fun k w hk => ?_⟩
  unfold mj_st1 at hk
  by_cases hki : k = i
  · subst hki
    rw [List.getElem?_set_self (by rw [mj_clr_len]; exact hi)] at hk
    cases hk
    exact h.2.2 (k, mj_v b base v) (List.mem_cons_self ..)
  · rw [List.getElem?_set_ne (Ne.symm hki)] at hk
    obtain ⟨h1, h2⟩ := mj_clr_get hki hk
    refine h.2.2 (k, mj_v b base w) (List.mem_cons_of_mem _ (List.mem_filter.mpr ⟨mj_lv_mem h1, ?_⟩))
    have h3 : ¬ (k + 1 = i ∧ (mj_v b base w).category = 2) := by rw [mj_v_cat]; exact h2
    simp only [Bool.and_eq_true, Bool.not_eq_true', beq_eq_false_iff_ne, Bool.and_eq_false_iff]
    refine ⟨hki, ?_⟩
    by_cases hz : k + 1 = i
    · exact Or.inr (fun z => h3 ⟨hz, z⟩)
    · exact Or.inl hz
theorem mj_l_st2 {b base : Nat} {ls : mj_L} {i : Nat} {v : Value} {rls' : Array Slot} (h : lv_has rls' ls.length ((i, mj_v b base v) :: (mj_lv b base ls).filter (fun q => !(q.1 == i) && (!(q.1 == i + 1) && !(q.1 + 1 == i && q.2.category == 2))))) (hi : i + 1 < ls.length) : mj_l b base (mj_st2 ls i v) rls' := by
  refine ⟨by rw [h.1]; unfold mj_st2; rw [List.length_set, List.length_set, mj_clr_len], h.2.1, fun k w hk => ?_⟩
  unfold mj_st2 at hk
  by_cases hk1 : k = i + 1
  · subst hk1
    rw [List.getElem?_set_self (by rw [List.length_set, mj_clr_len]; exact hi)] at hk
    cases hk
  · rw [List.getElem?_set_ne (Ne.symm hk1)] at hk
    by_cases hki : k = i
    · subst hki
      rw [List.getElem?_set_self (by rw [mj_clr_len]; omega)] at hk
      cases hk
      exact h.2.2 (k, mj_v b base v) (List.mem_cons_self ..)
    · rw [List.getElem?_set_ne (Ne.symm hki)] at hk
      obtain ⟨h1, h2⟩ := mj_clr_get hki hk
      refine h.2.2 (k, mj_v b base w) (List.mem_cons_of_mem _ (List.mem_filter.mpr ⟨mj_lv_mem h1, ?_⟩))
      have h3 : ¬ (k + 1 = i ∧ (mj_v b base w).category = 2) := by rw [mj_v_cat]; exact h2
      simp only [Bool.and_eq_true, Bool.not_eq_true', beq_eq_false_iff_ne, Bool.and_eq_false_iff]
      refine ⟨hki, hk1, ?_⟩
      by_cases hz : k + 1 = i
      · exact Or.inr (fun z => h3 ⟨hz, z⟩)
      · exact Or.inl hz
def mj_sub : mj_L → mj_L → Prop
  | [], [] => True
  | none :: a, _ :: b => mj_sub a b
  | some v :: a, w :: b => w = some v ∧ mj_sub a b
  | _, _ => False
theorem mj_sub_at : ∀ {a b : mj_L}, mj_sub a b → a.length = b.length ∧ ∀ (k : Nat) (v : Value), a[k]? = some (some v) → b[k]? = some (some v)
  | [], [], _ => ⟨rfl, fun k v h => by simp at h⟩
  | none :: a, w :: b, h => by
    obtain ⟨h1, h2⟩ := mj_sub_at (a := a) (b := b) h
    refine ⟨by simp [h1], fun k v hk => ?_⟩
    cases k with
    | zero => simp at hk
    | succ k => simpa using h2 k v (by simpa using hk)
  | some x :: a, w :: b, h => by
    obtain ⟨h0, h⟩ := h
    obtain ⟨h1, h2⟩ := mj_sub_at (a := a) (b := b) h
    refine ⟨by simp [h1], fun k v hk => ?_⟩
    cases k with
    | zero => simp at hk; subst hk; simp [h0]
    | succ k => simpa using h2 k v (by simpa using hk)
theorem mj_l_sub {b base : Nat} {ls ls' : mj_L} {rls : Array Slot} (hs : mj_sub ls' ls) (h : mj_l b base ls rls) : mj_l b base ls' rls := by
  obtain ⟨h1, h2⟩ := mj_sub_at hs
  exact ⟨by rw [h1]; exact h.1, h.2.1, fun k v hk => h.2.2 k v (h2 k v hk)⟩
section MJR
variable {S : mj_S} {μ : mj_Y} {pc : Nat} {ls : mj_L} {st : List Value} {h : mj_H} {Q : Option Value → mj_H → Prop}
theorem Ex_iadd {x y : Int32} (hd : decode μ.2.1 pc = .ok (.iadd, 1)) (k : Ex S μ (pc + 1) ls (.int (x + y) :: st) h Q) : Ex S μ pc ls (.int y :: .int x :: st) h Q := mj_pure (fun C P V L kk => lv_iadd C.1 C.2.1 hd (kk _ L)) k
theorem Ex_isub {x y : Int32} (hd : decode μ.2.1 pc = .ok (.isub, 1)) (k : Ex S μ (pc + 1) ls (.int (x - y) :: st) h Q) : Ex S μ pc ls (.int y :: .int x :: st) h Q := mj_pure (fun C P V L kk => lv_isub C.1 C.2.1 hd (kk _ L)) k
theorem Ex_imul {x y : Int32} (hd : decode μ.2.1 pc = .ok (.imul, 1)) (k : Ex S μ (pc + 1) ls (.int (x * y) :: st) h Q) : Ex S μ pc ls (.int y :: .int x :: st) h Q := mj_pure (fun C P V L kk => lv_imul C.1 C.2.1 hd (kk _ L)) k
theorem Ex_iand {x y : Int32} (hd : decode μ.2.1 pc = .ok (.iand, 1)) (k : Ex S μ (pc + 1) ls (.int (x &&& y) :: st) h Q) : Ex S μ pc ls (.int y :: .int x :: st) h Q := mj_pure (fun C P V L kk => lv_iand C.1 C.2.1 hd (kk _ L)) k
theorem Ex_ior {x y : Int32} (hd : decode μ.2.1 pc = .ok (.ior, 1)) (k : Ex S μ (pc + 1) ls (.int (x ||| y) :: st) h Q) : Ex S μ pc ls (.int y :: .int x :: st) h Q := mj_pure (fun C P V L kk => lv_ior C.1 C.2.1 hd (kk _ L)) k
theorem Ex_ixor {x y : Int32} (hd : decode μ.2.1 pc = .ok (.ixor, 1)) (k : Ex S μ (pc + 1) ls (.int (x ^^^ y) :: st) h Q) : Ex S μ pc ls (.int y :: .int x :: st) h Q := mj_pure (fun C P V L kk => lv_ixor C.1 C.2.1 hd (kk _ L)) k
theorem Ex_ishl {x y : Int32} (hd : decode μ.2.1 pc = .ok (.ishl, 1)) (k : Ex S μ (pc + 1) ls (.int (x <<< (y &&& 31)) :: st) h Q) : Ex S μ pc ls (.int y :: .int x :: st) h Q := mj_pure (fun C P V L kk => lv_ishl C.1 C.2.1 hd (kk _ L)) k
theorem Ex_ishr {x y : Int32} (hd : decode μ.2.1 pc = .ok (.ishr, 1)) (k : Ex S μ (pc + 1) ls (.int (x >>> (y &&& 31)) :: st) h Q) : Ex S μ pc ls (.int y :: .int x :: st) h Q := mj_pure (fun C P V L kk => lv_ishr C.1 C.2.1 hd (kk _ L)) k
theorem Ex_idiv {x y : Int32} (hd : decode μ.2.1 pc = .ok (.idiv, 1)) (hne : ¬ y = 0) (k : Ex S μ (pc + 1) ls (.int (x / y) :: st) h Q) : Ex S μ pc ls (.int y :: .int x :: st) h Q := mj_pure (fun C P V L kk => lv_idiv C.1 C.2.1 hd hne (kk _ L)) k
theorem Ex_irem {x y : Int32} (hd : decode μ.2.1 pc = .ok (.irem, 1)) (hne : ¬ y = 0) (k : Ex S μ (pc + 1) ls (.int (x - x / y * y) :: st) h Q) : Ex S μ pc ls (.int y :: .int x :: st) h Q := mj_pure (fun C P V L kk => lv_irem C.1 C.2.1 hd hne (kk _ L)) k
theorem Ex_iushr {x y : Int32} (hd : decode μ.2.1 pc = .ok (.iushr, 1)) (k : Ex S μ (pc + 1) ls (.int ((x.toUInt32 >>> (y.toUInt32 &&& Int32.toUInt32 31)).toInt32) :: st) h Q) : Ex S μ pc ls (.int y :: .int x :: st) h Q := mj_pure (fun C P V L kk => lv_iushr C.1 C.2.1 hd rfl (kk _ L)) k
theorem Ex_ineg {x : Int32} (hd : decode μ.2.1 pc = .ok (.ineg, 1)) (k : Ex S μ (pc + 1) ls (.int (-x) :: st) h Q) : Ex S μ pc ls (.int x :: st) h Q := mj_pure (fun C P V L kk => lv_ineg C.1 C.2.1 hd (kk _ L)) k
theorem Ex_ladd {x y : Int64} (hd : decode μ.2.1 pc = .ok (.ladd, 1)) (k : Ex S μ (pc + 1) ls (.long (x + y) :: st) h Q) : Ex S μ pc ls (.long y :: .long x :: st) h Q := mj_pure (fun C P V L kk => lv_ladd C.1 C.2.1 hd (kk _ L)) k
theorem Ex_lsub {x y : Int64} (hd : decode μ.2.1 pc = .ok (.lsub, 1)) (k : Ex S μ (pc + 1) ls (.long (x - y) :: st) h Q) : Ex S μ pc ls (.long y :: .long x :: st) h Q := mj_pure (fun C P V L kk => lv_lsub C.1 C.2.1 hd (kk _ L)) k
theorem Ex_land {x y : Int64} (hd : decode μ.2.1 pc = .ok (.land, 1)) (k : Ex S μ (pc + 1) ls (.long (x &&& y) :: st) h Q) : Ex S μ pc ls (.long y :: .long x :: st) h Q := mj_pure (fun C P V L kk => lv_land C.1 C.2.1 hd (kk _ L)) k
theorem Ex_lor {x y : Int64} (hd : decode μ.2.1 pc = .ok (.lor, 1)) (k : Ex S μ (pc + 1) ls (.long (x ||| y) :: st) h Q) : Ex S μ pc ls (.long y :: .long x :: st) h Q := mj_pure (fun C P V L kk => lv_lor C.1 C.2.1 hd (kk _ L)) k
theorem Ex_lxor {x y : Int64} (hd : decode μ.2.1 pc = .ok (.lxor, 1)) (k : Ex S μ (pc + 1) ls (.long (x ^^^ y) :: st) h Q) : Ex S μ pc ls (.long y :: .long x :: st) h Q := mj_pure (fun C P V L kk => lv_lxor C.1 C.2.1 hd (kk _ L)) k
theorem Ex_lshl {x : Int64} {y : Int32} (hd : decode μ.2.1 pc = .ok (.lshl, 1)) (k : Ex S μ (pc + 1) ls (.long (x <<< (y.toInt64 &&& 63)) :: st) h Q) : Ex S μ pc ls (.int y :: .long x :: st) h Q := mj_pure (fun C P V L kk => lv_lshl C.1 C.2.1 hd rfl (kk _ L)) k
theorem Ex_lshr {x : Int64} {y : Int32} (hd : decode μ.2.1 pc = .ok (.lshr, 1)) (k : Ex S μ (pc + 1) ls (.long (x >>> (y.toInt64 &&& 63)) :: st) h Q) : Ex S μ pc ls (.int y :: .long x :: st) h Q := mj_pure (fun C P V L kk => lv_lshr C.1 C.2.1 hd rfl (kk _ L)) k
theorem Ex_lushr {x : Int64} {y : Int32} (hd : decode μ.2.1 pc = .ok (.lushr, 1)) (k : Ex S μ (pc + 1) ls (.long ((x.toUInt64 >>> (y.toInt64.toUInt64 &&& Int64.toUInt64 63)).toInt64) :: st) h Q) : Ex S μ pc ls (.int y :: .long x :: st) h Q := mj_pure (fun C P V L kk => lv_lushr C.1 C.2.1 hd rfl (kk _ L)) k
theorem Ex_i2l {x : Int32} (hd : decode μ.2.1 pc = .ok (.i2l, 1)) (k : Ex S μ (pc + 1) ls (.long x.toInt64 :: st) h Q) : Ex S μ pc ls (.int x :: st) h Q := mj_pure (fun C P V L kk => lv_i2l C.1 C.2.1 hd rfl (kk _ L)) k
theorem Ex_l2i {x : Int64} (hd : decode μ.2.1 pc = .ok (.l2i, 1)) (k : Ex S μ (pc + 1) ls (.int x.toInt32 :: st) h Q) : Ex S μ pc ls (.long x :: st) h Q := mj_pure (fun C P V L kk => lv_l2i C.1 C.2.1 hd rfl (kk _ L)) k
theorem Ex_i2s {x : Int32} (hd : decode μ.2.1 pc = .ok (.i2s, 1)) (k : Ex S μ (pc + 1) ls (.int x.toInt16.toInt32 :: st) h Q) : Ex S μ pc ls (.int x :: st) h Q := mj_pure (fun C P V L kk => lv_i2s C.1 C.2.1 hd rfl (kk _ L)) k
theorem Ex_lcmp {x y : Int64} (hd : decode μ.2.1 pc = .ok (.lcmp, 1)) (k : Ex S μ (pc + 1) ls (.int (lg_cmp x y) :: st) h Q) : Ex S μ pc ls (.long y :: .long x :: st) h Q := mj_pure (fun C P V L kk => W.lcmp C.1 C.2.1 hd (kk _ L)) k
theorem Ex_iconst {n : Int} {v : Int32} (hd : decode μ.2.1 pc = .ok (.iconst n, 1)) (hv : Int32.ofInt n = v) (k : Ex S μ (pc + 1) ls (.int v :: st) h Q) : Ex S μ pc ls st h Q := mj_pure (fun C P V L kk => lv_iconst C.1 C.2.1 hd hv (kk _ L)) k
theorem Ex_bipush {n : Int} {v : Int32} (hd : decode μ.2.1 pc = .ok (.bipush n, 2)) (hv : (Int8.ofInt n).toInt32 = v) (k : Ex S μ (pc + 2) ls (.int v :: st) h Q) : Ex S μ pc ls st h Q := mj_pure (fun C P V L kk => lv_bipush C.1 C.2.1 hd hv (kk _ L)) k
theorem Ex_sipush {n : Int} {v : Int32} (hd : decode μ.2.1 pc = .ok (.sipush n, 3)) (hv : (Int16.ofInt n).toInt32 = v) (k : Ex S μ (pc + 3) ls (.int v :: st) h Q) : Ex S μ pc ls st h Q := mj_pure (fun C P V L kk => lv_sipush C.1 C.2.1 hd hv (kk _ L)) k
theorem Ex_lconst {n : Fin 2} {v : Int64} (hd : decode μ.2.1 pc = .ok (.lconst n, 1)) (hv : Int64.ofNat (n : Nat) = v) (k : Ex S μ (pc + 1) ls (.long v :: st) h Q) : Ex S μ pc ls st h Q := mj_pure (fun C P V L kk => lv_lconst C.1 C.2.1 hd hv (kk _ L)) k
theorem Ex_ldc {i : Nat} {v : Int32} (hw : Cond.constant μ.1.cls i v ∈ lw_g) (hd : decode μ.2.1 pc = .ok (.ldc i, 2)) (k : Ex S μ (pc + 2) ls (.int v :: st) h Q) : Ex S μ pc ls st h Q := mj_pure (fun C P V L kk => lv_ldc C.1 C.2.1 C.2.2.2.1 (C.2.2.2.2.2.2.2.1 _ hw) hd (kk _ L)) k
theorem Ex_ldc_w {i : Nat} {v : Int32} (hw : Cond.constant μ.1.cls i v ∈ lw_g) (hd : decode μ.2.1 pc = .ok (.ldc_w i, 3)) (k : Ex S μ (pc + 3) ls (.int v :: st) h Q) : Ex S μ pc ls st h Q := mj_pure (fun C P V L kk => lv_ldcw C.1 C.2.1 C.2.2.2.1 (C.2.2.2.2.2.2.2.1 _ hw) hd (kk _ L)) k
theorem Ex_ldc2_w {i : Nat} {v : Int64} (hw : Cond.constantLong μ.1.cls i v ∈ lw_g) (hd : decode μ.2.1 pc = .ok (.ldc2_w i, 3)) (k : Ex S μ (pc + 3) ls (.long v :: st) h Q) : Ex S μ pc ls st h Q := mj_pure (fun C P V L kk => lv_ldc2 C.1 C.2.1 C.2.2.2.1 (C.2.2.2.2.2.2.2.1 _ hw) hd (kk _ L)) k
theorem Ex_aconst_null (hd : decode μ.2.1 pc = .ok (.aconst_null, 1)) (k : Ex S μ (pc + 1) ls (.null :: st) h Q) : Ex S μ pc ls st h Q := mj_pure (fun C P V L kk => lv_null C.1 C.2.1 hd (kk _ L)) k
theorem Ex_iload_n {j : Fin 4} {x : Int32} (hd : decode μ.2.1 pc = .ok (.iload_n j, 1)) (hl : ls[(j : Nat)]? = some (some (.int x))) (k : Ex S μ (pc + 1) ls (.int x :: st) h Q) : Ex S μ pc ls st h Q := mj_pure (fun C P V L kk => lv_iload_n C.1 C.2.1 hd rfl (L.2.2 _ _ hl) (kk _ L)) k
theorem Ex_iload {j : Nat} {x : Int32} (hd : decode μ.2.1 pc = .ok (.iload j, 2)) (hl : ls[j]? = some (some (.int x))) (k : Ex S μ (pc + 2) ls (.int x :: st) h Q) : Ex S μ pc ls st h Q := mj_pure (fun C P V L kk => lv_iload C.1 C.2.1 hd (L.2.2 _ _ hl) (kk _ L)) k
theorem Ex_lload_n {j : Fin 4} {x : Int64} (hd : decode μ.2.1 pc = .ok (.lload_n j, 1)) (hl : ls[(j : Nat)]? = some (some (.long x))) (k : Ex S μ (pc + 1) ls (.long x :: st) h Q) : Ex S μ pc ls st h Q := mj_pure (fun C P V L kk => lv_lload_n C.1 C.2.1 hd rfl (L.2.2 _ _ hl) (kk _ L)) k
theorem Ex_lload {j : Nat} {x : Int64} (hd : decode μ.2.1 pc = .ok (.lload j, 2)) (hl : ls[j]? = some (some (.long x))) (k : Ex S μ (pc + 2) ls (.long x :: st) h Q) : Ex S μ pc ls st h Q := mj_pure (fun C P V L kk => lv_lload C.1 C.2.1 hd (L.2.2 _ _ hl) (kk _ L)) k
theorem Ex_aload_n {j : Fin 4} {x : Nat} (hd : decode μ.2.1 pc = .ok (.aload_n j, 1)) (hl : ls[(j : Nat)]? = some (some (.ref x))) (k : Ex S μ (pc + 1) ls (.ref x :: st) h Q) : Ex S μ pc ls st h Q := mj_pure (fun C P V L kk => lv_aload_n C.1 C.2.1 hd rfl (L.2.2 _ _ hl) (kk _ L)) k
theorem Ex_aloads_n {j : Fin 4} {x : UInt32} (hd : decode μ.2.1 pc = .ok (.aload_n j, 1)) (hl : ls[(j : Nat)]? = some (some (.float x))) (k : Ex S μ (pc + 1) ls (.float x :: st) h Q) : Ex S μ pc ls st h Q := mj_pure (fun C P V L kk => lv_aload_n C.1 C.2.1 hd rfl (L.2.2 _ _ hl) (kk _ L)) k
theorem Ex_aload0_n {j : Fin 4} (hd : decode μ.2.1 pc = .ok (.aload_n j, 1)) (hl : ls[(j : Nat)]? = some (some .null)) (k : Ex S μ (pc + 1) ls (.null :: st) h Q) : Ex S μ pc ls st h Q := mj_pure (fun C P V L kk => lv_aload_nN C.1 C.2.1 hd rfl (L.2.2 _ _ hl) (kk _ L)) k
theorem Ex_aload {j : Nat} {x : Nat} (hd : decode μ.2.1 pc = .ok (.aload j, 2)) (hl : ls[j]? = some (some (.ref x))) (k : Ex S μ (pc + 2) ls (.ref x :: st) h Q) : Ex S μ pc ls st h Q := mj_pure (fun C P V L kk => lv_aload C.1 C.2.1 hd (L.2.2 _ _ hl) (kk _ L)) k
theorem Ex_aloads {j : Nat} {x : UInt32} (hd : decode μ.2.1 pc = .ok (.aload j, 2)) (hl : ls[j]? = some (some (.float x))) (k : Ex S μ (pc + 2) ls (.float x :: st) h Q) : Ex S μ pc ls st h Q := mj_pure (fun C P V L kk => lv_aload C.1 C.2.1 hd (L.2.2 _ _ hl) (kk _ L)) k
theorem Ex_aload0 {j : Nat} (hd : decode μ.2.1 pc = .ok (.aload j, 2)) (hl : ls[j]? = some (some .null)) (k : Ex S μ (pc + 2) ls (.null :: st) h Q) : Ex S μ pc ls st h Q := mj_pure (fun C P V L kk => lv_aloadN C.1 C.2.1 hd (L.2.2 _ _ hl) (kk _ L)) k
theorem Ex_dup {v : Value} (hc : v.category = 1) (hd : decode μ.2.1 pc = .ok (.dup, 1)) (k : Ex S μ (pc + 1) ls (v :: v :: st) h Q) : Ex S μ pc ls (v :: st) h Q := mj_pure (fun C P V L kk => lv_dup C.1 C.2.1 hd (by rw [mj_v_cat]; exact hc) (kk _ L)) k
theorem Ex_dup2 {v w : Value} (hc : v.category = 1) (hw : w.category = 1) (hd : decode μ.2.1 pc = .ok (.dup2, 1)) (k : Ex S μ (pc + 1) ls (v :: w :: v :: w :: st) h Q) : Ex S μ pc ls (v :: w :: st) h Q := mj_pure (fun C P V L kk => lv_dup2_11 C.1 C.2.1 hd (by rw [mj_v_cat]; exact hc) (by rw [mj_v_cat]; exact hw) (kk _ L)) k
theorem Ex_if_eq {x : Int32} {off : Int} (tgt : Nat) (hd : decode μ.2.1 pc = .ok (.ifCond .eq off, 3)) (ht : (pc : Int) + off = (tgt : Int)) (kt : x = 0 → Ex S μ tgt ls st h Q) (kf : ¬ (x = 0) → Ex S μ (pc + 3) ls st h Q) : Ex S μ pc ls (.int x :: st) h Q := by
  by_cases q : x = 0
  · exact mj_pure (fun C P V L kk => lv_if_eq C.1 C.2.1 hd ht (fun _ => kk _ L) (fun z => absurd q z)) (kt q)
  · exact mj_pure (fun C P V L kk => lv_if_eq C.1 C.2.1 hd ht (fun z => absurd z q) (fun _ => kk _ L)) (kf q)
theorem Ex_icmp_eq {x y : Int32} {off : Int} (tgt : Nat) (hd : decode μ.2.1 pc = .ok (.if_icmp .eq off, 3)) (ht : (pc : Int) + off = (tgt : Int)) (kt : x = y → Ex S μ tgt ls st h Q) (kf : ¬ (x = y) → Ex S μ (pc + 3) ls st h Q) : Ex S μ pc ls (.int y :: .int x :: st) h Q := by
  by_cases q : x = y
  · exact mj_pure (fun C P V L kk => lv_icmp_eq C.1 C.2.1 hd ht (fun _ => kk _ L) (fun z => absurd q z)) (kt q)
  · exact mj_pure (fun C P V L kk => lv_icmp_eq C.1 C.2.1 hd ht (fun z => absurd z q) (fun _ => kk _ L)) (kf q)
theorem Ex_if_ne {x : Int32} {off : Int} (tgt : Nat) (hd : decode μ.2.1 pc = .ok (.ifCond .ne off, 3)) (ht : (pc : Int) + off = (tgt : Int)) (kt : ¬ x = 0 → Ex S μ tgt ls st h Q) (kf : x = 0 → Ex S μ (pc + 3) ls st h Q) : Ex S μ pc ls (.int x :: st) h Q := by
  by_cases q : x = 0
  · exact mj_pure (fun C P V L kk => lv_if_ne C.1 C.2.1 hd ht (fun z => absurd q z) (fun _ => kk _ L)) (kf q)
  · exact mj_pure (fun C P V L kk => lv_if_ne C.1 C.2.1 hd ht (fun _ => kk _ L) (fun z => absurd z q)) (kt q)
theorem Ex_icmp_ne {x y : Int32} {off : Int} (tgt : Nat) (hd : decode μ.2.1 pc = .ok (.if_icmp .ne off, 3)) (ht : (pc : Int) + off = (tgt : Int)) (kt : ¬ x = y → Ex S μ tgt ls st h Q) (kf : x = y → Ex S μ (pc + 3) ls st h Q) : Ex S μ pc ls (.int y :: .int x :: st) h Q := by
  by_cases q : x = y
  · exact mj_pure (fun C P V L kk => lv_icmp_ne C.1 C.2.1 hd ht (fun z => absurd q z) (fun _ => kk _ L)) (kf q)
  · exact mj_pure (fun C P V L kk => lv_icmp_ne C.1 C.2.1 hd ht (fun _ => kk _ L) (fun z => absurd z q)) (kt q)
theorem Ex_if_lt {x : Int32} {off : Int} (tgt : Nat) (hd : decode μ.2.1 pc = .ok (.ifCond .lt off, 3)) (ht : (pc : Int) + off = (tgt : Int)) (kt : x < 0 → Ex S μ tgt ls st h Q) (kf : ¬ (x < 0) → Ex S μ (pc + 3) ls st h Q) : Ex S μ pc ls (.int x :: st) h Q := by
  by_cases q : x < 0
  · exact mj_pure (fun C P V L kk => lv_if_lt C.1 C.2.1 hd ht (fun _ => kk _ L) (fun z => absurd q z)) (kt q)
  · exact mj_pure (fun C P V L kk => lv_if_lt C.1 C.2.1 hd ht (fun z => absurd z q) (fun _ => kk _ L)) (kf q)
theorem Ex_icmp_lt {x y : Int32} {off : Int} (tgt : Nat) (hd : decode μ.2.1 pc = .ok (.if_icmp .lt off, 3)) (ht : (pc : Int) + off = (tgt : Int)) (kt : x < y → Ex S μ tgt ls st h Q) (kf : ¬ (x < y) → Ex S μ (pc + 3) ls st h Q) : Ex S μ pc ls (.int y :: .int x :: st) h Q := by
  by_cases q : x < y
  · exact mj_pure (fun C P V L kk => lv_icmp_lt C.1 C.2.1 hd ht (fun _ => kk _ L) (fun z => absurd q z)) (kt q)
  · exact mj_pure (fun C P V L kk => lv_icmp_lt C.1 C.2.1 hd ht (fun z => absurd z q) (fun _ => kk _ L)) (kf q)
theorem Ex_if_ge {x : Int32} {off : Int} (tgt : Nat) (hd : decode μ.2.1 pc = .ok (.ifCond .ge off, 3)) (ht : (pc : Int) + off = (tgt : Int)) (kt : 0 ≤ x → Ex S μ tgt ls st h Q) (kf : ¬ (0 ≤ x) → Ex S μ (pc + 3) ls st h Q) : Ex S μ pc ls (.int x :: st) h Q := by
  by_cases q : 0 ≤ x
  · exact mj_pure (fun C P V L kk => lv_if_ge C.1 C.2.1 hd ht (fun _ => kk _ L) (fun z => absurd q z)) (kt q)
  · exact mj_pure (fun C P V L kk => lv_if_ge C.1 C.2.1 hd ht (fun z => absurd z q) (fun _ => kk _ L)) (kf q)
theorem Ex_icmp_ge {x y : Int32} {off : Int} (tgt : Nat) (hd : decode μ.2.1 pc = .ok (.if_icmp .ge off, 3)) (ht : (pc : Int) + off = (tgt : Int)) (kt : y ≤ x → Ex S μ tgt ls st h Q) (kf : ¬ (y ≤ x) → Ex S μ (pc + 3) ls st h Q) : Ex S μ pc ls (.int y :: .int x :: st) h Q := by
  by_cases q : y ≤ x
  · exact mj_pure (fun C P V L kk => lv_icmp_ge C.1 C.2.1 hd ht (fun _ => kk _ L) (fun z => absurd q z)) (kt q)
  · exact mj_pure (fun C P V L kk => lv_icmp_ge C.1 C.2.1 hd ht (fun z => absurd z q) (fun _ => kk _ L)) (kf q)
theorem Ex_if_gt {x : Int32} {off : Int} (tgt : Nat) (hd : decode μ.2.1 pc = .ok (.ifCond .gt off, 3)) (ht : (pc : Int) + off = (tgt : Int)) (kt : 0 < x → Ex S μ tgt ls st h Q) (kf : ¬ (0 < x) → Ex S μ (pc + 3) ls st h Q) : Ex S μ pc ls (.int x :: st) h Q := by
  by_cases q : 0 < x
  · exact mj_pure (fun C P V L kk => lv_if_gt C.1 C.2.1 hd ht (fun _ => kk _ L) (fun z => absurd q z)) (kt q)
  · exact mj_pure (fun C P V L kk => lv_if_gt C.1 C.2.1 hd ht (fun z => absurd z q) (fun _ => kk _ L)) (kf q)
theorem Ex_icmp_gt {x y : Int32} {off : Int} (tgt : Nat) (hd : decode μ.2.1 pc = .ok (.if_icmp .gt off, 3)) (ht : (pc : Int) + off = (tgt : Int)) (kt : y < x → Ex S μ tgt ls st h Q) (kf : ¬ (y < x) → Ex S μ (pc + 3) ls st h Q) : Ex S μ pc ls (.int y :: .int x :: st) h Q := by
  by_cases q : y < x
  · exact mj_pure (fun C P V L kk => lv_icmp_gt C.1 C.2.1 hd ht (fun _ => kk _ L) (fun z => absurd q z)) (kt q)
  · exact mj_pure (fun C P V L kk => lv_icmp_gt C.1 C.2.1 hd ht (fun z => absurd z q) (fun _ => kk _ L)) (kf q)
theorem Ex_if_le {x : Int32} {off : Int} (tgt : Nat) (hd : decode μ.2.1 pc = .ok (.ifCond .le off, 3)) (ht : (pc : Int) + off = (tgt : Int)) (kt : x ≤ 0 → Ex S μ tgt ls st h Q) (kf : ¬ (x ≤ 0) → Ex S μ (pc + 3) ls st h Q) : Ex S μ pc ls (.int x :: st) h Q := by
  by_cases q : x ≤ 0
  · exact mj_pure (fun C P V L kk => lv_if_le C.1 C.2.1 hd ht (fun _ => kk _ L) (fun z => absurd q z)) (kt q)
  · exact mj_pure (fun C P V L kk => lv_if_le C.1 C.2.1 hd ht (fun z => absurd z q) (fun _ => kk _ L)) (kf q)
theorem Ex_icmp_le {x y : Int32} {off : Int} (tgt : Nat) (hd : decode μ.2.1 pc = .ok (.if_icmp .le off, 3)) (ht : (pc : Int) + off = (tgt : Int)) (kt : x ≤ y → Ex S μ tgt ls st h Q) (kf : ¬ (x ≤ y) → Ex S μ (pc + 3) ls st h Q) : Ex S μ pc ls (.int y :: .int x :: st) h Q := by
  by_cases q : x ≤ y
  · exact mj_pure (fun C P V L kk => lv_icmp_le C.1 C.2.1 hd ht (fun _ => kk _ L) (fun z => absurd q z)) (kt q)
  · exact mj_pure (fun C P V L kk => lv_icmp_le C.1 C.2.1 hd ht (fun z => absurd z q) (fun _ => kk _ L)) (kf q)
theorem Ex_goto {off : Int} (tgt : Nat) (hd : decode μ.2.1 pc = .ok (.goto off, 3)) (ht : (pc : Int) + off = (tgt : Int)) (k : Ex S μ tgt ls st h Q) : Ex S μ pc ls st h Q := mj_pure (fun C P V L kk => lv_goto C.1 C.2.1 hd ht (kk _ L)) k
theorem Ex_ifnull {x : Nat} {off : Int} (hd : decode μ.2.1 pc = .ok (.ifnull off, 3)) (k : Ex S μ (pc + 3) ls st h Q) : Ex S μ pc ls (.ref x :: st) h Q := mj_pure (fun C P V L kk => lv_ifnull C.1 C.2.1 hd (kk _ L)) k
theorem Ex_ifnull0 {off : Int} (tgt : Nat) (hd : decode μ.2.1 pc = .ok (.ifnull off, 3)) (ht : (pc : Int) + off = (tgt : Int)) (k : Ex S μ tgt ls st h Q) : Ex S μ pc ls (.null :: st) h Q := mj_pure (fun C P V L kk => lv_ifnullN C.1 C.2.1 hd ht (kk _ L)) k
theorem Ex_ifnonnull {x : Nat} {off : Int} (tgt : Nat) (hd : decode μ.2.1 pc = .ok (.ifnonnull off, 3)) (ht : (pc : Int) + off = (tgt : Int)) (k : Ex S μ tgt ls st h Q) : Ex S μ pc ls (.ref x :: st) h Q := mj_pure (fun C P V L kk => lv_ifnonnull C.1 C.2.1 hd ht (kk _ L)) k
theorem Ex_ifnonnull0 {off : Int} (hd : decode μ.2.1 pc = .ok (.ifnonnull off, 3)) (k : Ex S μ (pc + 3) ls st h Q) : Ex S μ pc ls (.null :: st) h Q := mj_pure (fun C P V L kk => lv_ifnonnullN C.1 C.2.1 hd (kk _ L)) k
theorem Ex_swIn {dflt lo hi : Int} {offs : Array Int} {len : Nat} {x : Int32} {off : Int} (tgt : Nat) (hd : decode μ.2.1 pc = .ok (.tableswitch dflt lo hi offs, len)) (h1 : ¬ x.toInt < lo) (h2 : ¬ hi < x.toInt) (ho : offs[(x.toInt - lo).toNat]? = some off) (ht : (pc : Int) + off = (tgt : Int)) (k : Ex S μ tgt ls st h Q) : Ex S μ pc ls (.int x :: st) h Q := mj_pure (fun C P V L kk => lv_tableIn C.1 C.2.1 hd h1 h2 ho ht (kk _ L)) k
theorem Ex_swOut {dflt lo hi : Int} {offs : Array Int} {len : Nat} {x : Int32} (tgt : Nat) (hd : decode μ.2.1 pc = .ok (.tableswitch dflt lo hi offs, len)) (hz : x.toInt < lo ∨ hi < x.toInt) (ht : (pc : Int) + dflt = (tgt : Int)) (k : Ex S μ tgt ls st h Q) : Ex S μ pc ls (.int x :: st) h Q := mj_pure (fun C P V L kk => lv_tableOut C.1 C.2.1 hd hz ht (kk _ L)) k
theorem Ex_istore_n {j : Fin 4} {x : Int32} (ls' : mj_L) (hd : decode μ.2.1 pc = .ok (.istore_n j, 1)) (hn : (j : Nat) < ls.length) (he : mj_st1 ls (j : Nat) (.int x) = ls') (k : Ex S μ (pc + 1) ls' st h Q) : Ex S μ pc ls (.int x :: st) h Q := by
  subst he
  exact mj_pure (fun C P V L kk => lv_istore_n C.1 C.2.1 hd rfl (mj_l_has L) hn rfl (fun rls' hl => kk rls' (mj_l_st1 (v := .int x) hl hn))) k
theorem Ex_istore {j : Nat} {x : Int32} (ls' : mj_L) (hd : decode μ.2.1 pc = .ok (.istore j, 2)) (hn : j < ls.length) (he : mj_st1 ls j (.int x) = ls') (k : Ex S μ (pc + 2) ls' st h Q) : Ex S μ pc ls (.int x :: st) h Q := by
  subst he
  exact mj_pure (fun C P V L kk => lv_istore C.1 C.2.1 hd (mj_l_has L) hn rfl (fun rls' hl => kk rls' (mj_l_st1 (v := .int x) hl hn))) k
theorem Ex_lstore_n {j : Fin 4} {x : Int64} (ls' : mj_L) (hd : decode μ.2.1 pc = .ok (.lstore_n j, 1)) (hn : (j : Nat) + 1 < ls.length) (he : mj_st2 ls (j : Nat) (.long x) = ls') (k : Ex S μ (pc + 1) ls' st h Q) : Ex S μ pc ls (.long x :: st) h Q := by
  subst he
  exact mj_pure (fun C P V L kk => lv_lstore_n C.1 C.2.1 hd rfl (mj_l_has L) hn rfl (fun rls' hl => kk rls' (mj_l_st2 (v := .long x) hl hn))) k
theorem Ex_lstore {j : Nat} {x : Int64} (ls' : mj_L) (hd : decode μ.2.1 pc = .ok (.lstore j, 2)) (hn : j + 1 < ls.length) (he : mj_st2 ls j (.long x) = ls') (k : Ex S μ (pc + 2) ls' st h Q) : Ex S μ pc ls (.long x :: st) h Q := by
  subst he
  exact mj_pure (fun C P V L kk => lv_lstore C.1 C.2.1 hd (mj_l_has L) hn rfl (fun rls' hl => kk rls' (mj_l_st2 (v := .long x) hl hn))) k
theorem Ex_astore_n {j : Fin 4} {x : Nat} (ls' : mj_L) (hd : decode μ.2.1 pc = .ok (.astore_n j, 1)) (hn : (j : Nat) < ls.length) (he : mj_st1 ls (j : Nat) (.ref x) = ls') (k : Ex S μ (pc + 1) ls' st h Q) : Ex S μ pc ls (.ref x :: st) h Q := by
  subst he
  exact mj_pure (fun C P V L kk => lv_astore_n C.1 C.2.1 hd rfl (mj_l_has L) hn rfl (fun rls' hl => kk rls' (mj_l_st1 (v := .ref x) hl hn))) k
theorem Ex_astore0_n {j : Fin 4} (ls' : mj_L) (hd : decode μ.2.1 pc = .ok (.astore_n j, 1)) (hn : (j : Nat) < ls.length) (he : mj_st1 ls (j : Nat) .null = ls') (k : Ex S μ (pc + 1) ls' st h Q) : Ex S μ pc ls (.null :: st) h Q := by
  subst he
  exact mj_pure (fun C P V L kk => lv_astore_nN C.1 C.2.1 hd rfl (mj_l_has L) hn rfl (fun rls' hl => kk rls' (mj_l_st1 (v := .null) hl hn))) k
theorem Ex_astore {j : Nat} {x : Nat} (ls' : mj_L) (hd : decode μ.2.1 pc = .ok (.astore j, 2)) (hn : j < ls.length) (he : mj_st1 ls j (.ref x) = ls') (k : Ex S μ (pc + 2) ls' st h Q) : Ex S μ pc ls (.ref x :: st) h Q := by
  subst he
  exact mj_pure (fun C P V L kk => lv_astore C.1 C.2.1 hd (mj_l_has L) hn rfl (fun rls' hl => kk rls' (mj_l_st1 (v := .ref x) hl hn))) k
theorem Ex_astore0 {j : Nat} (ls' : mj_L) (hd : decode μ.2.1 pc = .ok (.astore j, 2)) (hn : j < ls.length) (he : mj_st1 ls j .null = ls') (k : Ex S μ (pc + 2) ls' st h Q) : Ex S μ pc ls (.null :: st) h Q := by
  subst he
  exact mj_pure (fun C P V L kk => lv_astoreN C.1 C.2.1 hd (mj_l_has L) hn rfl (fun rls' hl => kk rls' (mj_l_st1 (v := .null) hl hn))) k
theorem Ex_iinc {j : Nat} {n : Int} {x : Int32} (c : Int32) (ls' : mj_L) (hd : decode μ.2.1 pc = .ok (.iinc j n, 3)) (hl : ls[j]? = some (some (.int x))) (hc : Int32.ofInt n = c) (he : mj_st1 ls j (.int (x + c)) = ls') (k : Ex S μ (pc + 3) ls' st h Q) : Ex S μ pc ls st h Q := by
  subst he
  subst hc
  have hn : j < ls.length := (List.getElem?_eq_some_iff.mp hl).1
  refine mj_pure (fun C P V L kk => ?_) k
  obtain ⟨i, hi⟩ := List.getElem?_of_mem (mj_lv_mem hl)
  exact lv_iinc C.1 C.2.1 hd (mj_l_has L) hi rfl hn rfl (fun rls' hl' => kk rls' (mj_l_st1 (v := .int (x + Int32.ofInt n)) hl' hn))
theorem Ex_forget {ls' : mj_L} (hs : mj_sub ls' ls) (k : Ex S μ pc ls' st h Q) : Ex S μ pc ls st h Q := by
  obtain ⟨r, h', q, g1, g2, g⟩ := k
  exact ⟨r, h', q, g1, g2, fun p l e R s m args below meth c b base D cA C n0 z0 Q hn hz hc hl E H locs rls P Sv Lr => g p l e R s m args below meth c b base D cA C n0 z0 Q hn hz hc hl E H locs rls P Sv (mj_l_sub hs Lr)⟩
theorem Ex_mono {Q' : Option Value → mj_H → Prop} (k : Ex S μ pc ls st h Q') (hq : ∀ r h', Q' r h' → Q r h') : Ex S μ pc ls st h Q := by
  obtain ⟨r, h', q, g⟩ := k
  exact ⟨r, h', hq r h' q, g⟩
end MJR
end
section
/-! Rows of the small machine that read and write cells. -/
section MJP
variable {base : Nat} {D : va_G} {cA : Nat → ClassId} {h h1 : mj_H} {H H1 : Heap}
theorem mj_wrP {a : Nat} {t : Nat × Nat} (P : mj_P base D cA h H) (ht : mT h a = some t) (hT : h1.1 = h.1) (ho : ∀ k, k ≠ a → mI h1 k = mI h k ∧ mL h1 k = mL h k ∧ mR h1 k = mR h k)
    (he : va_at D mj_classes (base + a, mj_e base cA t (mI h1 a) (mL h1 a) (mR h1 a)) H1) (z : H1.size = H.size) (oq : ∀ q, q ≠ base + a → H1[q]? = H[q]?) : mj_P base D cA h1 H1 := by
  refine ⟨?_, by rw [z, P.2]; unfold mN; rw [hT]⟩
  rw [← mj_w_set ht hT rfl ho]
  exact P.1.set mj_w_D (mj_w_get ht) he oq
theorem mj_mkP {t n : Nat} (P : mj_P base D cA h H) (he : va_at D mj_classes (base + mN h, mj_e base cA (t, n) (fun _ => 0) (fun _ => 0) (fun _ => none)) H1) (z : H1.size = H.size + 1) (oq : ∀ q, q < H.size → H1[q]? = H[q]?) : mj_P base D cA (mNew h t n) H1 := by
  refine ⟨?_, by rw [z, P.2, mN_new]; omega⟩
  rw [mj_w_new]
  refine (P.1.kept (fun k x hx => oq x.1 ((P.1 k x hx).lt))).app (fun k x hx => ?_)
  have hz : k < 1 := (List.getElem?_eq_some_iff.mp hx).1
  rw [show k = 0 by omega] at hx
  cases hx
  exact he
theorem mj_atA {a n : Nat} {f : Nat → Int32} (P : mj_P base D cA h H) (ht : mT h a = some (0, n)) : (mj_w base cA h)[a]? = some (base + a, .inl (cA 0, n, .inl (mI h a))) := mj_w_get ht
end MJP
def va_upd_id (f : Nat → Int32) (k : Nat) (x : Int32) : va_up f k x = upd f k x := rfl
theorem mj_oI {h : mj_H} {a : Nat} {f : Nat → Int32} : ∀ k, k ≠ a → mI (wA h a f) k = mI h k ∧ mL (wA h a f) k = mL h k ∧ mR (wA h a f) k = mR h k := fun k hk => ⟨by simp [mI, wA, va_up, hk], rfl, rfl⟩
theorem mj_oL {h : mj_H} {a i : Nat} {v : Int64} : ∀ k, k ≠ a → mI (wL h a i v) k = mI h k ∧ mL (wL h a i v) k = mL h k ∧ mR (wL h a i v) k = mR h k := fun k hk => ⟨rfl, by simp [mL, wL, va_up, hk], rfl⟩
theorem mj_oR {h : mj_H} {a i : Nat} {v : Option Nat} : ∀ k, k ≠ a → mI (wR h a i v) k = mI h k ∧ mL (wR h a i v) k = mL h k ∧ mR (wR h a i v) k = mR h k := fun k hk => ⟨rfl, rfl, by simp [mR, wR, va_up, hk]⟩
theorem mj_sI (h : mj_H) (a : Nat) (f : Nat → Int32) : mI (wA h a f) a = f := by simp [mI, wA, va_up]
theorem mj_sL (h : mj_H) (a i : Nat) (v : Int64) : mL (wL h a i v) a = va_up (mL h a) i v := by simp [mL, wL, va_up]
theorem mj_sR (h : mj_H) (a i : Nat) (v : Option Nat) : mR (wR h a i v) a = va_up (mR h a) i v := by simp [mR, wR, va_up]
theorem mj_lt {i : Int32} {n : Nat} (h : vp_in i n) : i.toNatClampNeg < n := Nat.not_le.mp fun q => h (Or.inr q)
section MJA
variable {S : mj_S} {μ : mj_Y} {pc : Nat} {ls : mj_L} {st : List Value} {h : mj_H} {Q : Option Value → mj_H → Prop} {a n : Nat} {i : Int32}
theorem Ex_iaload (hd : decode μ.2.1 pc = .ok (.iaload, 1)) (ht : mT h a = some (0, n)) (hi : vp_in i n) (k : Ex S μ (pc + 1) ls (.int (mI h a i.toNatClampNeg) :: st) h Q) : Ex S μ pc ls (.int i :: .ref a :: st) h Q :=
  mj_pure (fun C P V L kk => va_iald C.1 C.2.1 C.2.2.2.2.2.2.2.2.2.1 P.1 a 0 (mj_w_get ht) rfl hi hd (kk _ L)) k
theorem Ex_baload (hd : decode μ.2.1 pc = .ok (.baload, 1)) (ht : mT h a = some (2, n)) (hi : vp_in i n) (k : Ex S μ (pc + 1) ls (.int (mI h a i.toNatClampNeg) :: st) h Q) : Ex S μ pc ls (.int i :: .ref a :: st) h Q :=
  mj_pure (fun C P V L kk => va_zald C.1 C.2.1 C.2.2.2.2.2.2.2.2.2.1 P.1 a 2 (mj_w_get ht) rfl hi hd (kk _ L)) k
theorem Ex_laload (hd : decode μ.2.1 pc = .ok (.laload, 1)) (ht : mT h a = some (1, n)) (hi : vp_in i n) (k : Ex S μ (pc + 1) ls (.long (mL h a i.toNatClampNeg) :: st) h Q) : Ex S μ pc ls (.int i :: .ref a :: st) h Q :=
  mj_pure (fun C P V L kk => va_lald C.1 C.2.1 C.2.2.2.2.2.2.2.2.2.1 P.1 a 1 (mj_w_get ht) rfl hi hd (kk _ L)) k
theorem mj_rfv (b base : Nat) (r : Option Nat) : va_rf (r.map (fun a => base + a)) = mj_v b base (va_rf r) := by cases r <;> rfl
theorem Ex_aaload {t : Nat} (hd : decode μ.2.1 pc = .ok (.aaload, 1)) (ht : mT h a = some (t, n)) (htt : 3 ≤ t ∧ t ≤ 6) (hi : vp_in i n) {v : Value} (hv : va_rf (mR h a i.toNatClampNeg) = v) (k : Ex S μ (pc + 1) ls (v :: st) h Q) : Ex S μ pc ls (.int i :: .ref a :: st) h Q := by
  subst hv
  refine mj_pure (fun {p l e R s m args below meth c b base D cA H locs cells slots Q rls} C P V L kk => ?_) k
  have hlt := mj_lt hi
  have hK : va_K D mj_classes (mj_tys cA) s := C.2.2.2.2.2.2.2.2.2.1
  have e : (mj_w base cA h)[a]? = some (base + a, .inl (cA t, n, .inr (.inr (.inr (.inr (mj_q base (mR h a))))))) := by
    rw [mj_w_get ht]
    rcases (show t = 3 ∨ t = 4 ∨ t = 5 ∨ t = 6 by omega) with rfl | rfl | rfl | rfl <;> rfl
  have hty : ∃ ty : FieldType, (mj_tys cA)[t]? = some (cA t, ty) ∧ ty.isReference = true := by
    rcases (show t = 3 ∨ t = 4 ∨ t = 5 ∨ t = 6 by omega) with rfl | rfl | rfl | rfl <;> exact ⟨_, rfl, rfl⟩
  obtain ⟨ty, h1, h2⟩ := hty
  refine W.aald (v := mj_v b base (va_rf (mR h a i.toNatClampNeg))) (ty := ty) C.1 C.2.1 (P.1 a _ e) ((hK.2 t _ h1).1 n (fun j => va_rf (mj_q base (mR h a) j))) h2 (fun q => by cases q) (by show ¬ (i < 0 ∨ (arrV _ _ _).slots.size ≤ _); rw [arrV_size]; exact hi) ?_ rfl rfl hd (kk _ L)
  show (arrV _ _ _).slots[_]? = _
  rw [arrV_read _ _ hlt, ← mj_rfv b base]
  rfl
theorem Ex_arraylength {t : Nat} (hd : decode μ.2.1 pc = .ok (.arraylength, 1)) (ht : mT h a = some (t, n)) (htt : t ≤ 6) (k : Ex S μ (pc + 1) ls (.int (Int32.ofNat n) :: st) h Q) : Ex S μ pc ls (.ref a :: st) h Q := by
  refine mj_pure (fun {p l e R s m args below meth c b base D cA H locs cells slots Q rls} C P V L kk => ?_) k
  have hK : va_K D mj_classes (mj_tys cA) s := C.2.2.2.2.2.2.2.2.2.1
  rcases (show t = 0 ∨ t = 1 ∨ t = 2 ∨ t = 3 ∨ t = 4 ∨ t = 5 ∨ t = 6 by omega) with rfl | rfl | rfl | rfl | rfl | rfl | rfl
  · exact va_alen C.1 C.2.1 hK P.1 a 0 (mj_w_get ht) rfl rfl hd (kk _ L)
  · exact va_alen C.1 C.2.1 hK P.1 a 1 (mj_w_get ht) rfl rfl hd (kk _ L)
  · exact va_alen C.1 C.2.1 hK P.1 a 2 (mj_w_get ht) rfl rfl hd (kk _ L)
  · exact va_alen C.1 C.2.1 hK P.1 a 3 (mj_w_get ht) rfl rfl hd (kk _ L)
  · exact va_alen C.1 C.2.1 hK P.1 a 4 (mj_w_get ht) rfl rfl hd (kk _ L)
  · exact va_alen C.1 C.2.1 hK P.1 a 5 (mj_w_get ht) rfl rfl hd (kk _ L)
  · exact va_alen C.1 C.2.1 hK P.1 a 6 (mj_w_get ht) rfl rfl hd (kk _ L)
theorem Ex_sload {f : UInt32} (hμ : μ.1 = yL_law) (hd : decode μ.2.1 pc = .ok (.iaload, 1)) (hi : vp_in i S.1) (k : Ex S μ (pc + 1) ls (.int (S.2 i.toNatClampNeg) :: st) h Q) : Ex S μ pc ls (.int i :: .float f :: st) h Q :=
  mj_pure (fun {p l e R s m args below meth c b base D cA H locs cells slots Q rls} C P V L kk => by
    have hX := C.2.2.2.2.2.2.2.2.2.2.2.2.2 hμ
    have hb := C.2.2.2.2.2.2.2.2.2.2.2.2.1
    exact va_sld C.1 C.2.1 hX.1 (Nat.lt_of_lt_of_le hX.2 hb) (Nat.not_le.mpr hX.2) V hi hd (kk _ L)) k
theorem Ex_slen {f : UInt32} (hμ : μ.1 = yL_law) (hd : decode μ.2.1 pc = .ok (.arraylength, 1)) (k : Ex S μ (pc + 1) ls (.int (Int32.ofNat S.1) :: st) h Q) : Ex S μ pc ls (.float f :: st) h Q :=
  mj_pure (fun {p l e R s m args below meth c b base D cA H locs cells slots Q rls} C P V L kk => by
    have hX := C.2.2.2.2.2.2.2.2.2.2.2.2.2 hμ
    have hb := C.2.2.2.2.2.2.2.2.2.2.2.2.1
    exact va_slen C.1 C.2.1 hX.1 (Nat.lt_of_lt_of_le hX.2 hb) (Nat.not_le.mpr hX.2) V hd (kk _ L)) k
theorem Ex_iastore {x : Int32} (hd : decode μ.2.1 pc = .ok (.iastore, 1)) (ht : mT h a = some (0, n)) (hi : vp_in i n) (k : Ex S μ (pc + 1) ls st (wI h a i.toNatClampNeg x) Q) : Ex S μ pc ls (.int x :: .int i :: .ref a :: st) h Q := by
  refine mj_wr (h1 := wI h a i.toNatClampNeg x) rfl (fun {p l e R s m args below meth c b base D cA H locs cells slots Q rls} C P V L kk => ?_) k
  have hK : va_K D mj_classes (mj_tys cA) s := C.2.2.2.2.2.2.2.2.2.1
  refine W.iast (x := x) C.1 C.2.1 (P.1 a _ (mj_w_get ht)) ((hK.2 0 _ rfl).1 n (fun j => .int (mI h a j))) (fun q => by cases q) (by show ¬ (i < 0 ∨ (arrV _ _ _).slots.size ≤ _); rw [arrV_size]; exact hi) rfl rfl hd fun H1 e z oq => ?_
  refine kk H1 _ (mj_wrP P ht rfl mj_oI ?_ z oq) (V.put z oq (by show base ≤ base + a; omega))
  show H1[base + a]? = some (vp_cell _ _)
  rw [e]
  show some ((vp_cell (cA 0) (n, Sum.inl (mI h a))).setSlot _ _) = some (vp_cell (cA 0) (n, Sum.inl (mI (wI h a i.toNatClampNeg x) a)))
  rw [show mI (wI h a i.toNatClampNeg x) a = va_up (mI h a) i.toNatClampNeg x from mj_sI _ _ _, vp_cell_i, vp_cell_i, arrV_store]
  congr 2
  funext q
  by_cases hq : q = i.toNatClampNeg <;> simp [updV, va_up, hq]
theorem Ex_bastore {x : Int32} (hd : decode μ.2.1 pc = .ok (.bastore, 1)) (ht : mT h a = some (2, n)) (hi : vp_in i n) (hx : x = 0 ∨ x = 1) (k : Ex S μ (pc + 1) ls st (wI h a i.toNatClampNeg x) Q) : Ex S μ pc ls (.int x :: .int i :: .ref a :: st) h Q := by
  refine mj_wr (h1 := wI h a i.toNatClampNeg x) rfl (fun {p l e R s m args below meth c b base D cA H locs cells slots Q rls} C P V L kk => ?_) k
  have hK : va_K D mj_classes (mj_tys cA) s := C.2.2.2.2.2.2.2.2.2.1
  refine W.zast (x := x) C.1 C.2.1 (P.1 a _ (mj_w_get ht)) ((hK.2 2 _ rfl).1 n (fun j => .int (mI h a j))) (fun q => by cases q) (by show ¬ (i < 0 ∨ (arrV _ _ _).slots.size ≤ _); rw [arrV_size]; exact hi) rfl rfl hd fun H1 e z oq => ?_
  refine kk H1 _ (mj_wrP P ht rfl mj_oI ?_ z oq) (V.put z oq (by show base ≤ base + a; omega))
  show H1[base + a]? = some (vp_cell _ _)
  rw [e]
  have hnx : narrow .boolean (.int x) = .int x := by rcases hx with rfl | rfl <;> rfl
  show some ((vp_cell (cA 2) (n, Sum.inl (mI h a))).setSlot _ _) = some (vp_cell (cA 2) (n, Sum.inl (mI (wI h a i.toNatClampNeg x) a)))
  rw [show mI (wI h a i.toNatClampNeg x) a = va_up (mI h a) i.toNatClampNeg x from mj_sI _ _ _, vp_cell_i, vp_cell_i, arrV_store, hnx]
  congr 2
  funext q
  by_cases hq : q = i.toNatClampNeg <;> simp [updV, va_up, hq]
theorem Ex_lastore {x : Int64} (hd : decode μ.2.1 pc = .ok (.lastore, 1)) (ht : mT h a = some (1, n)) (hi : vp_in i n) (k : Ex S μ (pc + 1) ls st (wL h a i.toNatClampNeg x) Q) : Ex S μ pc ls (.long x :: .int i :: .ref a :: st) h Q := by
  refine mj_wr (h1 := wL h a i.toNatClampNeg x) rfl (fun {p l e R s m args below meth c b base D cA H locs cells slots Q rls} C P V L kk => ?_) k
  have hK : va_K D mj_classes (mj_tys cA) s := C.2.2.2.2.2.2.2.2.2.1
  refine W.last (x := x) C.1 C.2.1 (P.1 a _ (mj_w_get ht)) ((hK.2 1 _ rfl).1 n (fun j => .long (mL h a j))) (fun q => by cases q) (by show ¬ (i < 0 ∨ (arrV _ _ _).slots.size ≤ _); rw [arrV_size]; exact hi) rfl rfl hd fun H1 e z oq => ?_
  refine kk H1 _ (mj_wrP P ht rfl mj_oL ?_ z oq) (V.put z oq (by show base ≤ base + a; omega))
  show H1[base + a]? = some (vp_cell _ _)
  rw [e]
  show some ((vp_cell (cA 1) (n, Sum.inr (Sum.inl (mL h a)))).setSlot _ _) = some (vp_cell (cA 1) (n, Sum.inr (Sum.inl (mL (wL h a i.toNatClampNeg x) a))))
  rw [mj_sL, vp_cell_l, vp_cell_l, arrV_store]
  congr 2
  funext q
  by_cases hq : q = i.toNatClampNeg <;> simp [updV, va_up, hq]
/-- an object into an array of its class -/
theorem Ex_aastore {t ci v : Nat} {r : vw_C} {w : Nat} (hd : decode μ.2.1 pc = .ok (.aastore, 1)) (ht : mT h a = some (t, n)) (htt : 4 ≤ t ∧ t ≤ 6) (hv : mT h v = some (10 + ci, w)) (hci : (t = 4 ∧ ci = 6) ∨ (t = 5 ∧ ci = 8) ∨ (t = 6 ∧ ci = 3)) (hi : vp_in i n) (k : Ex S μ (pc + 1) ls st (wR h a i.toNatClampNeg (some v)) Q) : Ex S μ pc ls (.ref v :: .int i :: .ref a :: st) h Q := by
  refine mj_wr (h1 := wR h a i.toNatClampNeg (some v)) rfl (fun {p l e R s m args below meth c b base D cA H locs cells slots Q rls} C P V L kk => ?_) k
  have hK : va_K D mj_classes (mj_tys cA) s := C.2.2.2.2.2.2.2.2.2.1
  have hlt := mj_lt hi
  have h0 : ¬ i < 0 := fun q => hi (Or.inl q)
  have e : (mj_w base cA h)[a]? = some (base + a, .inl (cA t, n, .inr (.inr (.inr (.inr (mj_q base (mR h a))))))) := by
    rw [mj_w_get ht]
    rcases (show t = 4 ∨ t = 5 ∨ t = 6 by omega) with rfl | rfl | rfl <;> rfl
  have ev : (mj_w base cA h)[v]? = some (base + v, .inr (ci, mj_fs base ci w (mI h v) (mR h v))) := by
    rw [mj_w_get hv]
    rcases hci with ⟨-, rfl⟩ | ⟨-, rfl⟩ | ⟨-, rfl⟩ <;> rfl
  have hty : ∃ r : vw_C, mj_classes[ci]? = some r ∧ (mj_tys cA)[t]? = some (cA t, .object r.1) := by
    rcases hci with ⟨rfl, rfl⟩ | ⟨rfl, rfl⟩ | ⟨rfl, rfl⟩ <;> exact ⟨_, rfl, rfl⟩
  obtain ⟨r, hc, h1⟩ := hty
  obtain ⟨r', hr', cellV, g1, g2, g3, -⟩ := P.1 v _ ev
  have hcls := (hK.1 ci r hc).2
  obtain ⟨kA, comp, k1, k2, k3, -⟩ := (hK.2 t _ h1).2
  have hcomp : comp = D.1 ci := Option.some.inj (k3.symm.trans hcls.1)
  subst hcomp
  obtain ⟨kC, hkC, -⟩ := hcls.2
  refine W.aast (v := base + v) C.1 C.2.1 (P.1 a _ e) (fun q h => by cases h) (fun h => by cases h) k1 k2 rfl hkC ⟨h0, by show _ < (arrV _ _ _).slots.size; rw [arrV_size]; exact hlt⟩ g1 (fun q h => by rw [g3] at h; cases h) (by rw [g2]; exact hkC) (by rw [g2]; exact va_asg _ _) rfl rfl hd fun H1 e1 z oq => ?_
  refine kk H1 _ (mj_wrP P ht rfl mj_oR ?_ z oq) (V.put z oq (by show base ≤ base + a; omega))
  have e2 : mj_e base cA (t, n) (mI (wR h a i.toNatClampNeg (some v)) a) (mL (wR h a i.toNatClampNeg (some v)) a) (mR (wR h a i.toNatClampNeg (some v)) a) = .inl (cA t, n, .inr (.inr (.inr (.inr (mj_q base (va_up (mR h a) i.toNatClampNeg (some v))))))) := by
    rw [mj_sR]
    rcases (show t = 4 ∨ t = 5 ∨ t = 6 by omega) with rfl | rfl | rfl <;> rfl
  rw [e2]
  show H1[base + a]? = some (vp_cell _ _)
  rw [e1]
  show some ((vp_cell (cA t) (n, .inr (.inr (.inr (.inr (mj_q base (mR h a))))))).setSlot _ _) = some _
  rw [vp_cell_q, vp_cell_q, arrV_store]
  congr 2
  funext q
  by_cases hq : q = i.toNatClampNeg <;> simp [updV, va_up, va_rf, mj_q, hq]
/-- an int array into an array of such -/
theorem Ex_aastoreA {v w : Nat} (hd : decode μ.2.1 pc = .ok (.aastore, 1)) (ht : mT h a = some (3, n)) (hv : mT h v = some (0, w)) (hi : vp_in i n) (k : Ex S μ (pc + 1) ls st (wR h a i.toNatClampNeg (some v)) Q) : Ex S μ pc ls (.ref v :: .int i :: .ref a :: st) h Q := by
  refine mj_wr (h1 := wR h a i.toNatClampNeg (some v)) rfl (fun {p l e R s m args below meth c b base D cA H locs cells slots Q rls} C P V L kk => ?_) k
  have hK : va_K D mj_classes (mj_tys cA) s := C.2.2.2.2.2.2.2.2.2.1
  have hlt := mj_lt hi
  have h0 : ¬ i < 0 := fun q => hi (Or.inl q)
  obtain ⟨comp, cc, kA, f1, f2, f3, f4, f5⟩ := arrayOverA_spec C.2.2.2.2.2.2.2.2.1.2.2.2.2.2.2.1
  have hc3 : cc = cA 3 := Option.some.inj (f5.symm.trans (hK.2 3 _ rfl).2)
  have hc0 : comp = cA 0 := Option.some.inj (f1.symm.trans (va_nm_int (hK.2 0 _ rfl).2))
  subst hc3
  subst hc0
  obtain ⟨-, kI, hkI, cmI, hkkI⟩ := (hK.2 0 _ rfl).1 0 (fun _ => .null)
  have hkI : s.vm.classes[cA 0]? = some kI := hkI
  refine W.aast (v := base + v) (kcomp := kI) (kv := kI) C.1 C.2.1 (P.1 a _ (mj_w_get ht)) (fun q h => by cases h) (fun h => by cases h) f3 f4 rfl hkI ⟨h0, by show _ < (arrV _ _ _).slots.size; rw [arrV_size]; exact hlt⟩ (P.1 v _ (mj_w_get hv)) (fun q h => by cases h) hkI (va_asg _ _) rfl rfl hd fun H1 e1 z oq => ?_
  refine kk H1 _ (mj_wrP P ht rfl mj_oR ?_ z oq) (V.put z oq (by show base ≤ base + a; omega))
  rw [mj_sR]
  show H1[base + a]? = some (vp_cell _ _)
  rw [e1]
  show some ((vp_cell (cA 3) (n, .inr (.inr (.inr (.inr (mj_q base (mR h a))))))).setSlot _ _) = some (vp_cell (cA 3) (n, .inr (.inr (.inr (.inr (mj_q base (va_up (mR h a) i.toNatClampNeg (some v))))))))
  rw [vp_cell_q, vp_cell_q, arrV_store]
  congr 2
  funext q
  by_cases hq : q = i.toNatClampNeg <;> simp [updV, va_up, va_rf, mj_q, hq]
end MJA
end
section
/-! Rows of the small machine: fields, new cells, copies. -/
theorem lw_g_of {w : Cond} (h1 : w ∈ lw_tbl) (h2 : goodWord w = true) : w ∈ lw_g := List.mem_filter.mpr ⟨h1, h2⟩
theorem lw_g_at {w : Cond} (i : Nat) (h1 : lw_tbl[i]? = some w) (h2 : goodWord w = true) : w ∈ lw_g := lw_g_of (List.mem_of_getElem? h1) h2
theorem u_ws_good (C : String) (T : u_T) (N : Nat) : ∀ w ∈ u_ws C T N, goodWord w = true := by
  intro w hw
  obtain ⟨k, -, rfl⟩ := List.mem_map.mp hw
  unfold u_lay
  split <;> rfl
theorem iX0 : ∀ w ∈ u_ws RX0 TX0 3, w ∈ lw_tbl := by decide +kernel
theorem iX1 : ∀ w ∈ u_ws RX1 TX1 11, w ∈ lw_tbl := by decide +kernel
theorem iX3 : ∀ w ∈ u_ws RX3 TX3 4, w ∈ lw_tbl := by decide +kernel
theorem iX4 : ∀ w ∈ u_ws RX4 TX4 5, w ∈ lw_tbl := by decide +kernel
theorem iX5 : ∀ w ∈ u_ws RX5 TX5 5, w ∈ lw_tbl := by decide +kernel
theorem iX6 : ∀ w ∈ u_ws RX6 TX6 6, w ∈ lw_tbl := by decide +kernel
theorem iX7 : ∀ w ∈ u_ws RX7 TX7 3, w ∈ lw_tbl := by decide +kernel
theorem iX8 : ∀ w ∈ u_ws RX8 TX8 3, w ∈ lw_tbl := by decide +kernel
theorem iX9 : ∀ w ∈ u_ws RX9 TX9 5, w ∈ lw_tbl := by decide +kernel
theorem iX10 : ∀ w ∈ u_ws RX10 TX10 13, w ∈ lw_tbl := by decide +kernel
theorem iX11 : ∀ w ∈ u_ws RX11 TX11 15, w ∈ lw_tbl := by decide +kernel
theorem iX12 : ∀ w ∈ u_ws RX12 TX12 55, w ∈ lw_tbl := by decide +kernel
/-- what the tables say of a class by its place -/
def mj_clOK (ci : Nat) (C : String) (T : u_T) (N : Nat) : Prop := (∀ w ∈ u_ws C T N, w ∈ lw_g) ∧ (∀ k, k < N → parseFieldDescriptor (T k).2.2.1 = some (mj_ft ci k)) ∧ (∀ a, a < N → ∀ b, b < N → a ≠ b → (T a).2.1 ≠ (T b).2.1) ∧ (∀ j, j < N → defaultValue (mj_ft ci j) = if mj_isR (mj_ft ci j) = true then .null else .int 0) ∧ Cond.instantiable C N ∈ lw_g ∧ Cond.initialized C ∈ lw_g
theorem mj_cl (ci : Nat) (C : String) (T : u_T) (N : Nat) (h : mj_classes[ci]? = some (C, T, N)) : mj_clOK ci C T N := by
  match ci, h with
  | 0, h => cases h; exact ⟨fun w hw => lw_g_of (iX0 w hw) (u_ws_good _ _ _ w hw), tyX0_ok, nmX0, by decide, lw_g_of (by decide +kernel) rfl, lw_g_of (by decide +kernel) rfl⟩
  | 1, h => cases h; exact ⟨fun w hw => lw_g_of (iX1 w hw) (u_ws_good _ _ _ w hw), tyX1_ok, nmX1, by decide, lw_g_of (by decide +kernel) rfl, lw_g_of (by decide +kernel) rfl⟩
  | 2, h => cases h; exact ⟨fun w hw => lw_g_of (iX3 w hw) (u_ws_good _ _ _ w hw), tyX3_ok, nmX3, by decide, lw_g_of (by decide +kernel) rfl, lw_g_of (by decide +kernel) rfl⟩
  | 3, h => cases h; exact ⟨fun w hw => lw_g_of (iX4 w hw) (u_ws_good _ _ _ w hw), tyX4_ok, nmX4, by decide, lw_g_of (by decide +kernel) rfl, lw_g_of (by decide +kernel) rfl⟩
  | 4, h => cases h; exact ⟨fun w hw => lw_g_of (iX5 w hw) (u_ws_good _ _ _ w hw), tyX5_ok, nmX5, by decide, lw_g_of (by decide +kernel) rfl, lw_g_of (by decide +kernel) rfl⟩
  | 5, h => cases h; exact ⟨fun w hw => lw_g_of (iX6 w hw) (u_ws_good _ _ _ w hw), tyX6_ok, nmX6, by decide, lw_g_of (by decide +kernel) rfl, lw_g_of (by decide +kernel) rfl⟩
  | 6, h => cases h; exact ⟨fun w hw => lw_g_of (iX7 w hw) (u_ws_good _ _ _ w hw), tyX7_ok, nmX7, by decide, lw_g_of (by decide +kernel) rfl, lw_g_of (by decide +kernel) rfl⟩
  | 7, h => cases h; exact ⟨fun w hw => lw_g_of (iX8 w hw) (u_ws_good _ _ _ w hw), tyX8_ok, nmX8, by decide, lw_g_of (by decide +kernel) rfl, lw_g_of (by decide +kernel) rfl⟩
  | 8, h => cases h; exact ⟨fun w hw => lw_g_of (iX9 w hw) (u_ws_good _ _ _ w hw), tyX9_ok, nmX9, by decide, lw_g_of (by decide +kernel) rfl, lw_g_of (by decide +kernel) rfl⟩
  | 9, h => cases h; exact ⟨fun w hw => lw_g_of (iX10 w hw) (u_ws_good _ _ _ w hw), tyX10_ok, nmX10, by decide, lw_g_of (by decide +kernel) rfl, lw_g_of (by decide +kernel) rfl⟩
  | 10, h => cases h; exact ⟨fun w hw => lw_g_of (iX11 w hw) (u_ws_good _ _ _ w hw), tyX11_ok, nmX11, by decide, lw_g_of (by decide +kernel) rfl, lw_g_of (by decide +kernel) rfl⟩
  | 11, h => cases h; exact ⟨fun w hw => lw_g_of (iX12 w hw) (u_ws_good _ _ _ w hw), tyX12_ok, nmX12, by decide, lw_g_of (by decide +kernel) rfl, lw_g_of (by decide +kernel) rfl⟩
  | n + 12, h => cases h
/-- a pool entry of a class that names field k of class ci -/
def mj_F (own : String) (idx ci k n : Nat) (fin : Bool) (ty : FieldType) : Prop := ∃ (C : String) (T : u_T), mj_classes[ci]? = some (C, T, n) ∧ k < n ∧ (T k).2.2.2 = fin ∧ mj_ft ci k = ty ∧ (T k).1 = C ∧ Cond.fieldLink own idx (T k).1 (T k).2.1 (T k).2.2.1 ∈ lw_g
theorem mj_fs_len (base c n : Nat) (I : Nat → Int32) (R : Nat → Option Nat) : (mj_fs base c n I R).length = n := by simp [mj_fs]
theorem mj_fs_get {base c n k : Nat} {I : Nat → Int32} {R : Nat → Option Nat} (hk : k < n) : (mj_fs base c n I R)[k]? = some (if mj_isR (mj_ft c k) = true then va_rf (mj_q base R k) else .int (I k)) := by
  unfold mj_fs
  rw [List.getElem?_map, List.getElem?_range hk]; rfl
theorem mj_e_obj (base : Nat) (cA : Nat → ClassId) (ci n : Nat) (I : Nat → Int32) (L : Nat → Int64) (R : Nat → Option Nat) : mj_e base cA (10 + ci, n) I L R = .inr (ci, mj_fs base ci n I R) := by
  unfold mj_e
  rw [if_neg (by show ¬ 10 + ci = 0; omega), if_neg (by show ¬ 10 + ci = 1; omega), if_neg (by show ¬ 10 + ci = 2; omega), if_neg (by show ¬ 10 + ci < 10; omega)]
  rw [show (10 + ci, n).1 - 10 = ci by show 10 + ci - 10 = ci; omega]
theorem mj_fs_setI {base c n k : Nat} {I : Nat → Int32} {R : Nat → Option Nat} {v : Int32} (hr : mj_isR (mj_ft c k) = false) : (mj_fs base c n I R).set k (.int v) = mj_fs base c n (va_up I k v) R := by
  apply List.ext_getElem?
  intro i
  by_cases hi : i < n
  · by_cases hk : k = i
    · subst hk
      rw [List.getElem?_set_self (by rw [mj_fs_len]; exact hi), mj_fs_get hi, hr]
      simp [va_up]
    · rw [List.getElem?_set_ne hk, mj_fs_get hi, mj_fs_get hi]
      have : ¬ i = k := fun z => hk z.symm
      simp [va_up, this]
  · rw [List.getElem?_eq_none (by rw [List.length_set, mj_fs_len]; omega), List.getElem?_eq_none (by rw [mj_fs_len]; omega)]
theorem mj_fs_setR {b base c n k : Nat} {I : Nat → Int32} {R : Nat → Option Nat} {v : Option Nat} (hr : mj_isR (mj_ft c k) = true) : (mj_fs base c n I R).set k (mj_v b base (va_rf v)) = mj_fs base c n I (va_up R k v) := by
  apply List.ext_getElem?
  intro i
  by_cases hi : i < n
  · by_cases hk : k = i
    · subst hk
      rw [List.getElem?_set_self (by rw [mj_fs_len]; exact hi), mj_fs_get hi, hr, ← mj_rfv b base]
      simp [va_up, mj_q]
    · rw [List.getElem?_set_ne hk, mj_fs_get hi, mj_fs_get hi]
      have : ¬ i = k := fun z => hk z.symm
      simp [va_up, mj_q, this]
  · rw [List.getElem?_eq_none (by rw [List.length_set, mj_fs_len]; omega), List.getElem?_eq_none (by rw [mj_fs_len]; omega)]
section MJF
variable {S : mj_S} {μ : mj_Y} {pc : Nat} {ls : mj_L} {st : List Value} {h : mj_H} {Q : Option Value → mj_H → Prop} {a n ci k idx : Nat} {fin : Bool} {ty : FieldType}
theorem Ex_getI (hd : decode μ.2.1 pc = .ok (.getfield idx, 3)) (hF : mj_F μ.1.cls idx ci k n fin ty) (hty : mj_isR ty = false) (ht : mT h a = some (10 + ci, n)) (kk : Ex S μ (pc + 3) ls (.int (mI h a k) :: st) h Q) : Ex S μ pc ls (.ref a :: st) h Q := by
  obtain ⟨C, T, h1, h2, h3, h4, h5, h6⟩ := hF
  subst h4
  have ok := mj_cl ci C T n h1
  refine mj_pure (fun {p l e R s m args below meth c b base D cA H locs cells slots Q rls} C P V L kk => ?_) kk
  have e1 := mj_w_get (base := base) (cA := cA) ht
  rw [mj_e_obj] at e1
  have hv := mj_fs_get (base := base) (c := ci) (I := mI h a) (R := mR h a) h2
  rw [hty] at hv
  exact va_get C.1 C.2.1 C.2.2.2.2.2.2.2.1 ok.1 C.2.2.2.1 C.2.2.2.2.2.2.2.2.2.1 P.1 a e1 h1 k h2 (C.2.2.2.2.2.2.2.1 _ h6) (fun x hx => hx) hv hd (kk _ L)
theorem Ex_getR {v : Value} (hd : decode μ.2.1 pc = .ok (.getfield idx, 3)) (hF : mj_F μ.1.cls idx ci k n fin ty) (hty : mj_isR ty = true) (ht : mT h a = some (10 + ci, n)) (hr : va_rf (mR h a k) = v) (kk : Ex S μ (pc + 3) ls (v :: st) h Q) : Ex S μ pc ls (.ref a :: st) h Q := by
  subst hr
  obtain ⟨C, T, h1, h2, h3, h4, h5, h6⟩ := hF
  subst h4
  have ok := mj_cl ci C T n h1
  refine mj_pure (fun {p l e R s m args below meth c b base D cA H locs cells slots Q rls} C P V L kk => ?_) kk
  have e1 := mj_w_get (base := base) (cA := cA) ht
  rw [mj_e_obj] at e1
  have hv := mj_fs_get (base := base) (c := ci) (I := mI h a) (R := mR h a) h2
  rw [hty] at hv
  have hv : (mj_fs base ci n (mI h a) (mR h a))[k]? = some (mj_v b base (va_rf (mR h a k))) := by
    rw [hv, ← mj_rfv b base]; rfl
  exact va_get C.1 C.2.1 C.2.2.2.2.2.2.2.1 ok.1 C.2.2.2.1 C.2.2.2.2.2.2.2.2.2.1 P.1 a e1 h1 k h2 (C.2.2.2.2.2.2.2.1 _ h6) (fun x hx => hx) hv hd (kk _ L)
/-- a field written, on the machine itself -/
theorem mj_putW {p : Program} {l : Launch} {e : Env} {R : Room} {s : State} {m : MethodId} {args : Array Value} {below : List Frame} {meth : Method} {c : Code} {b base : Nat} {D : va_G} {cA : Nat → ClassId} {H : Heap} {locs : List Loc} {cells slots : Nat} {Q : State → Prop} {rls : Array Slot} {rest : List Value} {v : Value}
    (C : mj_C S μ p R s m args meth c b base D cA) (P : mj_P base D cA h H) (V : va_S (fun q => base ≤ q) s.heap H locs) (hd : decode μ.2.1 pc = .ok (.putfield idx, 3)) (hF : mj_F μ.1.cls idx ci k n fin ty) (hf : fin = false ∨ (fin = true ∧ μ.1.name = "<init>" ∧ ∃ T, mj_classes[ci]? = some (μ.1.cls, T, n))) (ht : mT h a = some (10 + ci, n)) (hn : narrow ty v = v) (hfit : fits ty v = true)
    (kk : ∀ (H1 : Heap) (locs1 : List Loc), va_at D mj_classes (base + a, .inr (ci, (mj_fs base ci n (mI h a) (mR h a)).set k v)) H1 → H1.size = H.size → (∀ q, q ≠ base + a → H1[q]? = H[q]?) → va_S (fun q => base ≤ q) s.heap H1 locs1 → W p l e R s m args below meth c H1 locs1 cells slots Q (F0 m (pc + 3) rls rest)) : W p l e R s m args below meth c H locs cells slots Q (F0 m pc rls (v :: .ref (base + a) :: rest)) := by
  obtain ⟨Cn, T, h1, h2, h3, h4, h5, h6⟩ := hF
  subst h4
  have ok := mj_cl ci Cn T n h1
  have e1 := mj_w_get (base := base) (cA := cA) ht
  rw [mj_e_obj] at e1
  have hts := C.2.2.2.2.2.2.2.1
  have hown := C.2.2.2.1
  have hK : va_K D mj_classes (mj_tys cA) s := C.2.2.2.2.2.2.2.2.2.1
  have hap := va_apart (own := μ.1.cls) hts ok.1 (mj_ft ci) ok.2.1 ok.2.2.1 hK h1
  obtain ⟨r, g1, cell, q1, q2, q3, q4⟩ := P.1 a _ e1
  have hr : r = (Cn, T, n) := Option.some.inj (g1.symm.trans h1)
  subst hr
  obtain ⟨hS, hfc, kC, hkC, hkind⟩ := hK.1 ci _ h1
  obtain ⟨cf, kf, fi, f, hi, hsl⟩ := hS k h2
  have hlay := hts _ (ok.1 _ (u_in_lay h2))
  unfold u_lay at hlay
  have hst := (u_facts hfc hkC (u_lays hts ok.1 h2) hi).1
  have hlink := hts _ h6
  have hl : k < (mj_fs base ci n (mI h a) (mR h a)).length := by rw [mj_fs_len]; exact h2
  rcases hf with hf | ⟨hf, hin2, T', hcl'⟩
  · rw [if_neg (by rw [h3, hf]; decide)] at hlay
    have h7 := u_store hfc hkC hkind hlay hi (ok.2.1 k h2) hn hfit
    refine W.putK C.1 C.2.1 (f := f) ⟨hown, hlink, ⟨_, _, _, hi⟩, hst⟩ (by rw [q2]; exact h7) q1 q3 (by rw [hsl]; exact k2_hasslot (q4 k h2)) rfl rfl hd fun H' e1 e2 e3 => ?_
    rw [hsl] at e1 ⊢
    exact kk H' _ ⟨_, h1, t_OB.to (V := updV (vp_V _) k v) ⟨_, e1, q2, q3, t_set q4 hap h2 v⟩ (fun j _ => vp_updV_set hl v j)⟩ e2 e3 (V.put e2 e3 (by show base ≤ base + a; omega))
  · rw [if_pos (by rw [h3]; exact hf)] at hlay
    have hCn : Cn = μ.1.cls := by
      have := h1.symm.trans hcl'
      cases this
      rfl
    have hcf : m.cls = cf := by
      obtain ⟨_, _, c', _, _, _, -, -, hf', -, -, -, hown2, -⟩ := Cond.laysFinal_spec hlay
      have e1 : c' = cf := by have := hi.symm.trans hf'; simp at this; exact this.1.symm
      rw [h5, hCn] at hown2
      rw [← e1]; exact Option.some.inj (hown.symm.trans hown2)
    have h7 := u_fits hfc hkC hkind (Or.inr hlay) hi (ok.2.1 k h2) hn hfit
    refine W.putFinK C.1 C.2.1 hown hlink hi hst hcf (C.2.2.2.2.2.2.1 hin2) (by rw [q2]; exact h7) q1 q3 (by rw [hsl]; exact k2_hasslot (q4 k h2)) rfl rfl hd fun H' e1 e2 e3 => ?_
    rw [hsl] at e1 ⊢
    exact kk H' _ ⟨_, h1, t_OB.to (V := updV (vp_V _) k v) ⟨_, e1, q2, q3, t_set q4 hap h2 v⟩ (fun j _ => vp_updV_set hl v j)⟩ e2 e3 (V.put e2 e3 (by show base ≤ base + a; omega))
/-- an int field, or a boolean one with 0 or 1 -/
theorem Ex_putI {x : Int32} (hd : decode μ.2.1 pc = .ok (.putfield idx, 3)) (hF : mj_F μ.1.cls idx ci k n fin ty) (hf : fin = false ∨ (fin = true ∧ μ.1.name = "<init>" ∧ ∃ T, mj_classes[ci]? = some (μ.1.cls, T, n))) (ht : mT h a = some (10 + ci, n)) (hty : ty = .int ∨ (ty = .boolean ∧ (x = 0 ∨ x = 1))) (kk : Ex S μ (pc + 3) ls st (wI h a k x) Q) : Ex S μ pc ls (.int x :: .ref a :: st) h Q := by
  have hr : mj_isR (mj_ft ci k) = false := by
    obtain ⟨C, T, h1, h2, h3, h4, h5, h6⟩ := id hF
    rw [h4]; rcases hty with rfl | ⟨rfl, -⟩ <;> rfl
  refine mj_wr (h1 := wI h a k x) rfl (fun {p l e R s m args below meth c b base D cA H locs cells slots Q rls} C P V L kk => ?_) kk
  refine mj_putW (v := .int x) C P V hd hF hf ht (by rcases hty with rfl | ⟨rfl, rfl | rfl⟩ <;> rfl) (by rcases hty with rfl | ⟨rfl, rfl | rfl⟩ <;> rfl) (fun H1 locs1 e1 z oq V1 => ?_)
  refine kk H1 locs1 (mj_wrP P ht rfl mj_oI ?_ z oq) V1
  rw [mj_e_obj, show mI (wI h a k x) a = va_up (mI h a) k x from mj_sI _ _ _]
  rw [mj_fs_setI hr] at e1
  exact e1
theorem Ex_putR {x : Option Nat} {v : Value} (hd : decode μ.2.1 pc = .ok (.putfield idx, 3)) (hF : mj_F μ.1.cls idx ci k n fin ty) (hf : fin = false ∨ (fin = true ∧ μ.1.name = "<init>" ∧ ∃ T, mj_classes[ci]? = some (μ.1.cls, T, n))) (hty : mj_isR ty = true) (ht : mT h a = some (10 + ci, n)) (hx : va_rf x = v) (kk : Ex S μ (pc + 3) ls st (wR h a k x) Q) : Ex S μ pc ls (v :: .ref a :: st) h Q := by
  subst hx
  have hr : mj_isR (mj_ft ci k) = true := by
    obtain ⟨C, T, h1, h2, h3, h4, h5, h6⟩ := id hF
    rw [h4]; exact hty
  refine mj_wr (h1 := wR h a k x) rfl (fun {p l e R s m args below meth c b base D cA H locs cells slots Q rls} C P V L kk => ?_) kk
  refine mj_putW (v := mj_v b base (va_rf x)) C P V hd hF hf ht (by cases ty <;> first | (cases hty; done) | (cases x <;> rfl)) (by cases ty <;> first | (cases hty; done) | (cases x <;> rfl)) (fun H1 locs1 e1 z oq V1 => ?_)
  refine kk H1 locs1 (mj_wrP P ht rfl mj_oR ?_ z oq) V1
  rw [mj_e_obj, mj_sR]
  rw [mj_fs_setR hr] at e1
  exact e1
theorem Ex_new {C : String} {T : u_T} (hd : decode μ.2.1 pc = .ok (.new idx, 3)) (hc : mj_classes[ci]? = some (C, T, n)) (hl : Cond.classLink μ.1.cls idx C ∈ lw_g) (kk : Ex S μ (pc + 3) ls (.ref (mN h) :: st) (mNew h (10 + ci) n) Q) : Ex S μ pc ls st h Q := by
  have ok := mj_cl ci C T n hc
  refine mj_mk (h1 := mNew h (10 + ci) n) (mN_new ..) (mZ_new ..) (fun {p l e R s m args below meth c b base D cA H locs cells slots Q rls} C P V L hcl hsl kk => ?_) kk
  have hts := C.2.2.2.2.2.2.2.1
  have hK : va_K D mj_classes (mj_tys cA) s := C.2.2.2.2.2.2.2.2.2.1
  have hKn := hK.1 ci _ hc
  refine W.newcK C.1 C.2.1 C.2.2.2.1 (hts _ hl) (hts _ ok.2.2.2.2.1) (hts _ ok.2.2.2.2.2) rfl hd hcl hsl hKn.2.1 P.2 fun H1 kC hkC e1 z1 o1 => ?_
  refine kk H1 (mj_mkP P ?_ (by rw [z1, P.2]) (fun q hq => o1 q (by rw [← P.2]; exact hq))) ⟨Nat.le_trans V.1 (by rw [z1, P.2]; omega), fun x h1 h2 => (o1 x (by rw [← P.2]; exact Nat.lt_of_lt_of_le h1 V.1)).trans (V.2.1 x h1 h2), V.2.2⟩
  rw [mj_e_obj]
  refine ⟨_, hc, (u_born (mj_ft ci) hts ok.1 hKn hkC e1 ok.2.1).to (fun j hj => ?_)⟩
  rw [ok.2.2.2.1 j hj]
  show _ = List.getD _ _ _
  rw [List.getD_eq_getElem?_getD, mj_fs_get hj]
  split <;> simp_all [mj_q, va_rf]
end MJF
end
section
/-! Rows of the small machine: new arrays, copies, calls of Object's constructor. -/
section MJN
variable {S : mj_S} {μ : mj_Y} {pc : Nat} {ls : mj_L} {st : List Value} {h : mj_H} {Q : Option Value → mj_H → Prop} {a n ci k idx : Nat}
theorem mj_V1 {base : Nat} {s : State} {H H1 : Heap} {locs : List Loc} (V : va_S (fun q => base ≤ q) s.heap H locs) (z1 : H1.size = H.size + 1) (o1 : ∀ q, q < H.size → H1[q]? = H[q]?) : va_S (fun q => base ≤ q) s.heap H1 locs :=
  ⟨Nat.le_trans V.1 (by rw [z1]; omega), fun x h1 h2 => (o1 x (Nat.lt_of_lt_of_le h1 V.1)).trans (V.2.1 x h1 h2), V.2.2⟩
/-- a new array of ints (tag 0), longs (1) or booleans (2) -/
theorem Ex_newarray {t : Nat} {aty : ArrayType} {i : Int32} (hd : decode μ.2.1 pc = .ok (.newarray aty, 2)) (hty : (t = 0 ∧ aty = .int) ∨ (t = 1 ∧ aty = .long) ∨ (t = 2 ∧ aty = .boolean)) (hw : Cond.arrayClass (newarray.typeOf aty) ∈ lw_g) (hi : ¬ i < 0) (hn : i.toNatClampNeg = n) (hb : n ≤ 1000000) (kk : Ex S μ (pc + 2) ls (.ref (mN h) :: st) (mNew h t n) Q) : Ex S μ pc ls (.int i :: st) h Q := by
  refine mj_mk (h1 := mNew h t n) (mN_new ..) (mZ_new ..) (fun {p l e R s m args below meth c b base D cA H locs cells slots Q rls} C P V L hcl hsl kk => ?_) kk
  have hts := C.2.2.2.2.2.2.2.1
  have hK : va_K D mj_classes (mj_tys cA) s := C.2.2.2.2.2.2.2.2.2.1
  refine va_newaK C.1 C.2.1 (hts _ hw) rfl hd rfl hi hn (by rcases hty with ⟨-, rfl⟩ | ⟨-, rfl⟩ | ⟨-, rfl⟩ <;> simp only [newarray.typeOf, componentBytes] <;> omega) hcl hsl P.2 fun H1 cB e1 z1 o1 hA hf => ?_
  refine kk H1 (mj_mkP P ?_ (by rw [z1, P.2]) (fun q hq => o1 q (by rw [← P.2]; exact hq))) (mj_V1 V (by rw [z1, P.2]) (fun q hq => o1 q (by rw [← P.2]; exact hq)))
  rcases hty with ⟨rfl, rfl⟩ | ⟨rfl, rfl⟩ | ⟨rfl, rfl⟩
  · have : cB = cA 0 := Option.some.inj (hf.symm.trans (hK.2 0 _ rfl).2)
    subst this; exact e1
  · have : cB = cA 1 := Option.some.inj (hf.symm.trans (hK.2 1 _ rfl).2)
    subst this; exact e1
  · have : cB = cA 2 := Option.some.inj (hf.symm.trans (hK.2 2 _ rfl).2)
    subst this; exact e1
theorem mj_nulls (cC : ClassId) (n : Nat) : ({ cls := cC, slots := Array.replicate n .null, vm := .none } : Cell) = vp_cell cC (n, .inr (.inr (.inr (.inr (fun _ => none))))) := by
  rw [vp_cell_q]
  show _ = ({ cls := cC, slots := Array.ofFn (n := n) fun _ => Value.null, vm := .none } : Cell)
  congr 1
  apply Array.ext
  · simp
  · intro j h1 h2; simp
theorem Ex_anewarray {t : Nat} {C : String} {i : Int32} (hd : decode μ.2.1 pc = .ok (.anewarray idx, 3)) (hty : (t = 4 ∧ C = RX7) ∨ (t = 5 ∧ C = RX9) ∨ (t = 6 ∧ C = RX4)) (hw : Cond.classLink μ.1.cls idx C ∈ lw_g) (hi : ¬ i < 0) (hn : i.toNatClampNeg = n) (hb : n ≤ 1000000) (kk : Ex S μ (pc + 3) ls (.ref (mN h) :: st) (mNew h t n) Q) : Ex S μ pc ls (.int i :: st) h Q := by
  subst hn
  refine mj_mk (h1 := mNew h t i.toNatClampNeg) (mN_new ..) (mZ_new ..) (fun {p l e R s m args below meth c b base D cA H locs cells slots Q rls} Cx P V L hcl hsl kk => ?_) kk
  have hts := Cx.2.2.2.2.2.2.2.1
  have hK : va_K D mj_classes (mj_tys cA) s := Cx.2.2.2.2.2.2.2.2.2.1
  have hN := Cx.2.2.2.2.2.2.2.2.1
  have hover : va_AO C s := by rcases hty with ⟨-, rfl⟩ | ⟨-, rfl⟩ | ⟨-, rfl⟩ <;> first | exact hN.2.2.2.1 | exact hN.2.2.2.2.1 | exact hN.2.2.2.2.2.1
  have hk : (mj_tys cA)[t]? = some (cA t, .object C) := by rcases hty with ⟨rfl, rfl⟩ | ⟨rfl, rfl⟩ | ⟨rfl, rfl⟩ <;> rfl
  refine W.anew (C := C) Cx.1 Cx.2.1 Cx.2.2.2.1 (hts _ hw) (va_AO.use hover) rfl hd rfl hi (by omega) hcl hsl fun cB kA comp f1 f2 f3 f4 => ?_
  obtain ⟨_, _, -, -, -, g4⟩ := (hK.2 t _ hk).2
  have hcB : cB = cA t := Option.some.inj (f1.symm.trans g4)
  subst hcB
  have eH : Value.ref H.size = mj_v b base (.ref (mN h)) := by rw [P.2]; rfl
  have k2 := kk (H.push { cls := cA t, slots := Array.replicate i.toNatClampNeg .null, vm := .none }) (mj_mkP P ?_ (by simp) (fun q hq => by rw [Array.getElem?_push, if_neg (Nat.ne_of_lt hq)])) (mj_V1 V (by simp) (fun q hq => by rw [Array.getElem?_push, if_neg (Nat.ne_of_lt hq)]))
  · show W _ _ _ _ _ _ _ _ _ _ _ _ _ _ _ (F0 m (pc + 3) rls (Value.ref H.size :: _))
    rw [eH]
    exact k2
  · have e2 : mj_e base cA (t, i.toNatClampNeg) (fun _ => 0) (fun _ => 0) (fun _ => none) = .inl (cA t, i.toNatClampNeg, .inr (.inr (.inr (.inr (fun _ => none))))) := by
      rcases hty with ⟨rfl, -⟩ | ⟨rfl, -⟩ | ⟨rfl, -⟩ <;> rfl
    rw [e2]
    show (H.push _)[base + mN h]? = some (vp_cell _ _)
    rw [← P.2, ← mj_nulls]
    simp
theorem Ex_anewarrayA {i : Int32} (hd : decode μ.2.1 pc = .ok (.anewarray idx, 3)) (hw : Cond.classLink μ.1.cls idx "[I" ∈ lw_g) (hi : ¬ i < 0) (hn : i.toNatClampNeg = n) (hb : n ≤ 1000000) (kk : Ex S μ (pc + 3) ls (.ref (mN h) :: st) (mNew h 3 n) Q) : Ex S μ pc ls (.int i :: st) h Q := by
  subst hn
  refine mj_mk (h1 := mNew h 3 i.toNatClampNeg) (mN_new ..) (mZ_new ..) (fun {p l e R s m args below meth c b base D cA H locs cells slots Q rls} Cx P V L hcl hsl kk => ?_) kk
  have hts := Cx.2.2.2.2.2.2.2.1
  have hK : va_K D mj_classes (mj_tys cA) s := Cx.2.2.2.2.2.2.2.2.2.1
  have hN := Cx.2.2.2.2.2.2.2.2.1
  refine W.anewA (t := .int) Cx.1 Cx.2.1 Cx.2.2.2.1 (hts _ hw) hN.2.2.2.2.2.2.1 rfl hd rfl hi (by omega) hcl hsl fun cB kA comp f1 f2 f3 f4 => ?_
  have hcB : cB = cA 3 := Option.some.inj (f1.symm.trans (hK.2 3 _ rfl).2)
  subst hcB
  have eH : Value.ref H.size = mj_v b base (.ref (mN h)) := by rw [P.2]; rfl
  have k2 := kk (H.push { cls := cA 3, slots := Array.replicate i.toNatClampNeg .null, vm := .none }) (mj_mkP P ?_ (by simp) (fun q hq => by rw [Array.getElem?_push, if_neg (Nat.ne_of_lt hq)])) (mj_V1 V (by simp) (fun q hq => by rw [Array.getElem?_push, if_neg (Nat.ne_of_lt hq)]))
  · show W _ _ _ _ _ _ _ _ _ _ _ _ _ _ _ (F0 m (pc + 3) rls (Value.ref H.size :: _))
    rw [eH]
    exact k2
  · show (H.push _)[base + mN h]? = some (vp_cell (cA 3) (i.toNatClampNeg, .inr (.inr (.inr (.inr (fun _ => none))))))
    rw [← P.2, ← mj_nulls]
    simp
theorem Ex_checkcastA (hd : decode μ.2.1 pc = .ok (.checkcast idx, 3)) (hw : Cond.classLink μ.1.cls idx "[I" ∈ lw_g) (ht : mT h a = some (0, n)) (kk : Ex S μ (pc + 3) ls (.ref a :: st) h Q) : Ex S μ pc ls (.ref a :: st) h Q :=
  mj_pure (fun {p l e R s m args below meth c b base D cA H locs cells slots Q rls} C P V L kk => va_castA C.1 C.2.1 C.2.2.2.1 (C.2.2.2.2.2.2.2.1 _ hw) P.1 a (mj_w_get ht) (va_nm_int (C.2.2.2.2.2.2.2.2.2.1.2 0 _ rfl).2) hd (kk _ L)) kk
def mj_cat (st : List Value) : Nat := (st.map fun v => v.category).sum
theorem mj_cat_map (b base : Nat) (st : List Value) : ((st.map (mj_v b base)).map fun v => v.category).sum = mj_cat st := by
  unfold mj_cat
  rw [List.map_map]
  congr 1
  apply List.map_congr_left
  intro v _
  exact mj_v_cat b base v
theorem Ex_objInit (hd : decode μ.2.1 pc = .ok (.invokespecial idx, 3)) (hw : Cond.methodLink μ.1.cls idx objectInit ∈ lw_g) (hw2 : Cond.instanceMethod objectInit ∈ lw_g) (hw3 : Cond.code objectInit ⟨#[0xb1]⟩ 1 none ∈ lw_g) (hl : ls.length = μ.2.2.1) (hr : 1 ≤ μ.2.2.2.2.1 ∧ mj_cat st + 12 ≤ μ.2.2.2.2.2) (kk : Ex S μ (pc + 3) ls st h Q) : Ex S μ pc ls (.ref a :: st) h Q := by
  refine mj_pure (fun {p l e R s m args below meth c b base D cA H locs cells slots Q rls} C P V L kk => ?_) kk
  have hts := C.2.2.2.2.2.2.2.1
  refine W.objInit C.1 C.2.1 C.2.2.2.1 (hts _ hw) (hts _ hw2) (hts _ hw3) rfl (by show rls.size = _; rw [L.1, C.2.2.1, hl]) rfl hd (Nat.le_trans hr.1 C.2.2.2.2.2.2.2.2.2.2.1) ?_ (kk _ L)
  have hlo := C.2.2.2.2.2.2.2.2.2.2.2.1
  have e := mj_cat_map b base st
  show 2 * 0 + _ + 12 ≤ _
  rw [e]
  omega
theorem mj_nn (z : Int32) (hz : ¬ z < 0) : z.toInt = (z.toNatClampNeg : Int) := by
  have hz0 : (0 : Int) ≤ z.toInt := by
    have := Int32.not_lt.mp hz
    simpa using Int32.le_iff_toInt_le.mp this
  show z.toInt = ((z.toInt.toNat : Nat) : Int)
  omega
/-- System.arraycopy over arrays of ints -/
theorem Ex_arraycopy {n1 x y : Nat} {sp dp m : Int32} (hd : decode μ.2.1 pc = .ok (.invokestatic idx, 3)) (hw : Cond.methodLink μ.1.cls idx arraycopyName ∈ lw_g) (hw2 : Cond.native arraycopyName ∈ lw_g) (hw3 : Cond.static arraycopyName ∈ lw_g) (hw4 : Cond.initialized "java/lang/System" ∈ lw_g) (hl : ls.length = μ.2.2.1) (hr : 1 ≤ μ.2.2.2.2.1 ∧ mj_cat st + 18 ≤ μ.2.2.2.2.2)
    (hx : mT h x = some (0, n)) (hy : mT h y = some (0, n1)) (h1 : ¬ sp < 0) (h2 : ¬ dp < 0) (h3 : ¬ m < 0) (h4 : sp.toNatClampNeg + m.toNatClampNeg ≤ n) (h5 : dp.toNatClampNeg + m.toNatClampNeg ≤ n1)
    (kk : Ex S μ (pc + 3) ls st (wA h y (va_cpy (mI h x) (mI h y) sp.toNatClampNeg dp.toNatClampNeg m.toNatClampNeg)) Q) : Ex S μ pc ls (.int m :: .int dp :: .ref y :: .int sp :: .ref x :: st) h Q := by
  refine mj_wr (h1 := wA h y (va_cpy (mI h x) (mI h y) sp.toNatClampNeg dp.toNatClampNeg m.toNatClampNeg)) rfl (fun {p l e R s m0 args below meth c b base D cA H locs cells slots Q rls} C P V L kk => ?_) kk
  have hts := C.2.2.2.2.2.2.2.1
  have hK : va_K D mj_classes (mj_tys cA) s := C.2.2.2.2.2.2.2.2.2.1
  have hc0 : H[base + x]? = some (vp_cell (cA 0) (n, .inl (mI h x))) := P.1 x _ (mj_w_get hx)
  have hc1 : H[base + y]? = some (vp_cell (cA 0) (n1, .inl (mI h y))) := P.1 y _ (mj_w_get hy)
  obtain ⟨-, k0, hk0, cm0, hkk0⟩ := (hK.2 0 _ rfl).1 n (fun j => .int (mI h x j))
  have e1 : copied (vp_cell (cA 0) (n, .inl (mI h x))) (vp_cell (cA 0) (n1, .inl (mI h y))) sp dp m = vp_cell (cA 0) (n1, .inl (va_cpy (mI h x) (mI h y) sp.toNatClampNeg dp.toNatClampNeg m.toNatClampNeg)) := va_copied (fun z => .int z) (cA 0) (cA 0) (mI h x) (mI h y) h4
  have hcat := mj_cat_map b base st
  have hlo := C.2.2.2.2.2.2.2.2.2.2.2.1
  intro T hT X
  obtain ⟨vm', X', step⟩ := X.arraycopy C.1 C.2.2.2.1 (hts _ hw) (hts _ hw2) (hts _ hw3) (hts _ hw4) (src := base + x) (dst := base + y) (cs := vp_cell (cA 0) (n, .inl (mI h x))) (cd := vp_cell (cA 0) (n1, .inl (mI h y))) (srcPos := sp) (destPos := dp) (n := m) (by rw [hT]; exact hc0) (by rw [hT]; exact hc1)
    (fun _ h => by cases h) (fun _ h => by cases h) (fun h => by cases h) (fun h => by cases h) hk0 hk0 hkk0 hkk0 (by simp [refKind]) h1 h2 h3
    (by rw [mj_nn sp h1, mj_nn m h3]; show ¬ _ > ((arrV (cA 0) n (fun j => .int (mI h x j))).slots.size : Int); rw [arrV_size]; omega)
    (by rw [mj_nn dp h2, mj_nn m h3]; show ¬ _ > ((arrV (cA 0) n1 (fun j => .int (mI h y j))).slots.size : Int); rw [arrV_size]; omega)
    (fun vm₁ _ i hi => by
      have e : (vp_cell (cA 0) (n, .inl (mI h x))).slots.getD (sp.toNatClampNeg + i) .null = .int (mI h x (sp.toNatClampNeg + i)) := by
        show (arrV (cA 0) n (fun j => .int (mI h x j))).slots.getD _ _ = _
        rw [Array.getD_eq_getD_getElem?, arrV_read _ _ (by omega)]
        rfl
      rw [e]
      exact ⟨rfl, trivial⟩)
    (g := F0 m0 pc rls (List.map (mj_v b base) (.int m :: .int dp :: .ref y :: .int sp :: .ref x :: st))) rfl (by show rls.size = _; rw [L.1, C.2.2.1, hl]) (rest := List.map (mj_v b base) st) rfl (by rw [C.2.1]; exact hd) (Nat.le_trans hr.1 C.2.2.2.2.2.2.2.2.2.2.1) (by show 2 * 0 + _ + (7 + 11) ≤ _; rw [hcat]; omega)
  rw [e1] at X' step
  have hl : base + y < H.size := (Array.getElem?_eq_some_iff.mp hc1).1
  have oq : ∀ q : Nat, q ≠ base + y → (H.setIfInBounds (base + y) (vp_cell (cA 0) (n1, .inl (va_cpy (mI h x) (mI h y) sp.toNatClampNeg dp.toNatClampNeg m.toNatClampNeg))))[q]? = H[q]? := fun q hq => by simp [Array.getElem?_setIfInBounds, Ne.symm hq]
  obtain ⟨t, a1, b1⟩ := kk (H.setIfInBounds (base + y) (vp_cell (cA 0) (n1, .inl (va_cpy (mI h x) (mI h y) sp.toNatClampNeg dp.toNatClampNeg m.toNatClampNeg)))) _ (mj_wrP P hy rfl mj_oI (by
      rw [mj_sI]
      show (H.setIfInBounds (base + y) _)[base + y]? = some (vp_cell (cA 0) _)
      simp [Array.getElem?_setIfInBounds, hl]) (by simp) oq) ⟨by simp; exact V.1, fun q g1 g2 => by
      rw [oq q (fun e => g2 (by show base ≤ q; omega))]
      exact V.2.1 q g1 g2, fun q hq => by
      rcases List.mem_append.mp hq with h | h
      · exact V.2.2 q h
      · obtain ⟨z, -, hz⟩ := List.mem_map.mp h
        rw [← hz]
        show base ≤ base + y
        omega⟩ _ (by rw [← hT]; rfl) X'
  exact ⟨t, step t a1, b1⟩
/-- clone of an array of ints -/
theorem Ex_clone (hd : decode μ.2.1 pc = .ok (.invokevirtual idx, 3)) (hw : Cond.methodLink μ.1.cls idx ⟨"[I", "clone", "()Ljava/lang/Object;"⟩ ∈ lw_g) (hw2 : Cond.sameMethod "[I" "java/lang/Object" "clone" "()Ljava/lang/Object;" ∈ lw_g) (hw3 : Cond.native ⟨"java/lang/Object", "clone", "()Ljava/lang/Object;"⟩ ∈ lw_g) (hw4 : Cond.instanceMethod ⟨"java/lang/Object", "clone", "()Ljava/lang/Object;"⟩ ∈ lw_g) (hw5 : Cond.selects "[I" ⟨"[I", "clone", "()Ljava/lang/Object;"⟩ ⟨"java/lang/Object", "clone", "()Ljava/lang/Object;"⟩ ∈ lw_g)
    (hl : ls.length = μ.2.2.1) (hr : 1 ≤ μ.2.2.2.2.1 ∧ mj_cat st + 14 ≤ μ.2.2.2.2.2) (ht : mT h a = some (0, n))
    (kk : Ex S μ (pc + 3) ls (.ref (mN h) :: st) (wA (mNew h 0 n) (mN h) (mI h a)) Q) : Ex S μ pc ls (.ref a :: st) h Q := by
  refine mj_mk (h1 := wA (mNew h 0 n) (mN h) (mI h a)) (n := n) (by rw [← mN_new h 0 n]; rfl) (by rw [← mZ_new h 0 n]; rfl) (fun {p l e R s m args below meth c b base D cA H locs cells slots Q rls} C P V L hcl hsl kk => ?_) kk
  have hts := C.2.2.2.2.2.2.2.1
  have hK : va_K D mj_classes (mj_tys cA) s := C.2.2.2.2.2.2.2.2.2.1
  have hnm := va_nm_int (hK.2 0 _ rfl).2
  have hcat := mj_cat_map b base st
  have hlo := C.2.2.2.2.2.2.2.2.2.2.2.1
  obtain ⟨c0, t0', f1, f2, f3⟩ := Cond.castable_spec (va_Nw.use (A := args) rfl C.2.2.2.2.2.2.2.2.1.2.2.2.2.2.2.2)
  cases hnm.symm.trans f1
  have hcell : H[base + a]? = some (vp_cell (cA 0) (n, .inl (mI h a))) := P.1 a _ (mj_w_get ht)
  intro T hT X
  obtain ⟨-, kA, hkA, comp, hkind⟩ := State.isArrayOf_alike X.warmed.alike ((hK.2 0 _ rfl).1 0 (fun _ => .null))
  obtain ⟨-, kS, hkS, compS, hkindS⟩ := (hK.2 0 _ rfl).1 0 (fun _ => .null)
  have hsz : (vp_cell (cA 0) (n, .inl (mI h a))).slots.size = n := arrV_size _ _ _
  obtain ⟨vm', X', st0⟩ := X.cloneArray C.1 C.2.2.2.1 (hts _ hw) (hts _ hw2) (hts _ hw3) (hts _ hw4) (hts _ hw5) (a := base + a) (cell := vp_cell (cA 0) (n, .inl (mI h a))) (by rw [hT]; exact hcell) (fun k h => by cases h) (fun h => by cases h) hnm f2 f3
    (fun i v hv => by
      have hk' : T.vm.classes[cA 0]? = some kA := hkA
      have hv' : fits .int v = true := va_fit (cA := cA 0) (n := n) (F := fun j => .int (mI h a j)) (fun _ _ => rfl) i v hv
      simpa [State.fitsSlot, State.slotType?, hk', hkind, vp_cell, arrV] using hv')
    (g := F0 m pc rls (List.map (mj_v b base) (.ref a :: st))) rfl (by show rls.size = _; rw [L.1, C.2.2.1, hl]) rfl (by rw [C.2.1]; exact hd) (Nat.le_trans hr.1 C.2.2.2.2.2.2.2.2.2.2.1) (by show 2 * 0 + _ + 14 ≤ _; rw [hcat]; omega) hcl (by rw [hsz]; exact hsl) (hloader := Vm.clonesLoader_of_array hkS hkindS)
  rw [hsz] at X'
  have P1 : mj_P base D cA (wA (mNew h 0 n) (mN h) (mI h a)) (H.push (vp_cell (cA 0) (n, .inl (mI h a)))) := by
    have P0 : mj_P base D cA (mNew h 0 n) (H.push (vp_cell (cA 0) (n, .inl (fun _ => 0)))) := mj_mkP P (by
      show (H.push _)[base + mN h]? = some (vp_cell (cA 0) _)
      rw [← P.2]; simp) (by simp) (fun q hq => by rw [Array.getElem?_push, if_neg (Nat.ne_of_lt hq)])
    refine mj_wrP P0 (mT_new_self h 0 n) rfl mj_oI ?_ (by simp) (fun q hq => ?_)
    · rw [mj_sI]
      show (H.push _)[base + mN h]? = some (vp_cell (cA 0) _)
      rw [← P.2]; simp
    · rw [← P.2] at hq
      rw [Array.getElem?_push, Array.getElem?_push, if_neg hq, if_neg hq]
  obtain ⟨t, b1, b2⟩ := kk (H.push (vp_cell (cA 0) (n, .inl (mI h a)))) P1 (mj_V1 V (by simp) (fun q hq => by rw [Array.getElem?_push, if_neg (Nat.ne_of_lt hq)])) ((T.setVm vm').pushCell (vp_cell (cA 0) (n, .inl (mI h a)))) (by rw [← hT]; rfl) X'
  refine ⟨t, st0 t ?_, b2⟩
  have eH : Value.ref T.heap.size = mj_v b base (.ref (mN h)) := by rw [hT, P.2]; rfl
  rw [eH]
  exact b1
end MJN
end
section
/-! Rows of the small machine: the method's end, and calls. -/
section MJE
variable {S : mj_S} {μ ν : mj_Y} {pc : Nat} {ls : mj_L} {st : List Value} {h : mj_H} {Q : Option Value → mj_H → Prop}
theorem mj_end {r : Option Value} (q : Q r h) (hr : mj_ret μ pc r) : Ex S μ pc ls r.toList h Q :=
  ⟨r, h, q, Nat.le_refl _, Nat.le_refl _, fun p l e R s m args below meth c b base D cA C n0 z0 Q hn hz hc hl E H locs rls P V L => E H locs rls pc P V hr⟩
theorem Ex_ireturn {v : Int32} (hd : decode μ.2.1 pc = .ok (.ireturn, 1)) (hr : μ.2.2.2.1 = some .int) (q : Q (some (.int v)) h) : Ex S μ pc ls [.int v] h Q := mj_end (r := some (.int v)) q ⟨_, hr, rfl, hd⟩
theorem Ex_zreturn {v : Int32} (hd : decode μ.2.1 pc = .ok (.ireturn, 1)) (hr : μ.2.2.2.1 = some .boolean) (hv : v = 0 ∨ v = 1) (q : Q (some (.int v)) h) : Ex S μ pc ls [.int v] h Q := mj_end (r := some (.int v)) q ⟨_, hr, by rcases hv with rfl | rfl <;> rfl, hd⟩
theorem Ex_lreturn {v : Int64} (hd : decode μ.2.1 pc = .ok (.lreturn, 1)) (hr : μ.2.2.2.1 = some .long) (q : Q (some (.long v)) h) : Ex S μ pc ls [.long v] h Q := mj_end (r := some (.long v)) q ⟨hr, hd⟩
theorem Ex_return (hd : decode μ.2.1 pc = .ok (.return_, 1)) (hr : μ.2.2.2.1 = none) (q : Q none h) : Ex S μ pc ls [] h Q := mj_end (r := none) q ⟨hr, hd⟩
theorem Ex_areturn {v : Nat} {ty : FieldType} (hd : decode μ.2.1 pc = .ok (.areturn, 1)) (hr : μ.2.2.2.1 = some ty) (ht : (∃ n, ty = .object n) ∨ ∃ t, ty = .array t) (q : Q (some (.ref v)) h) : Ex S μ pc ls [.ref v] h Q := mj_end (r := some (.ref v)) q ⟨_, hr, ht, hd⟩
theorem Ex_areturn0 {ty : FieldType} (hd : decode μ.2.1 pc = .ok (.areturn, 1)) (hr : μ.2.2.2.1 = some ty) (ht : (∃ n, ty = .object n) ∨ ∃ t, ty = .array t) (q : Q (some .null) h) : Ex S μ pc ls [.null] h Q := mj_end (r := some .null) q ⟨_, hr, ht, hd⟩
end MJE
/-! the entry of a method -/
def mj_sl : List Value → mj_L
  | [] => []
  | v :: r => if v.category = 2 then some v :: none :: mj_sl r else some v :: mj_sl r
def mj_ent (n : Nat) (as : List Value) : mj_L := mj_sl as ++ List.replicate (n - (mj_sl as).length) none
theorem mj_sl_mem (b base : Nat) : ∀ (as : List Value) (o k : Nat) (v : Value), (mj_sl as)[k]? = some (some v) → (o + k, mj_v b base v) ∈ lv_args o (as.map (mj_v b base))
  | [], o, k, v, h => by simp [mj_sl] at h
  | w :: as, o, k, v, h => by
    simp only [mj_sl] at h
    show _ ∈ (o, mj_v b base w) :: lv_args _ _
    rw [mj_v_cat]
    by_cases hc : w.category = 2
    · rw [if_pos hc] at h ⊢
      match k, h with
      | 0, h => simp at h; subst h; exact List.mem_cons_self ..
      | 1, h => simp at h
      | k + 2, h =>
        have := mj_sl_mem b base as (o + 2) k v (by simpa using h)
        rw [show o + (k + 2) = o + 2 + k by omega]
        exact List.mem_cons_of_mem _ this
    · rw [if_neg hc] at h ⊢
      match k, h with
      | 0, h => simp at h; subst h; exact List.mem_cons_self ..
      | k + 1, h =>
        have := mj_sl_mem b base as (o + 1) k v (by simpa using h)
        rw [show o + (k + 1) = o + 1 + k by omega]
        exact List.mem_cons_of_mem _ this
theorem mj_sl_len (b base : Nat) : ∀ (as : List Value), (lg_sl (as.map (mj_v b base))).length = (mj_sl as).length
  | [] => rfl
  | w :: as => by
    have ih := mj_sl_len b base as
    simp only [lg_sl, mj_sl, List.map_cons, List.flatMap_cons, List.length_append] at ih ⊢
    rw [mj_v_cat, ih]
    by_cases hc : w.category = 2
    · simp [hc]; omega
    · simp [hc]; omega
theorem mj_entry {b base n : Nat} {as : List Value} (hn : (mj_sl as).length ≤ n) : mj_l b base (mj_ent n as) ((lg_sl (as.map (mj_v b base)) ++ List.replicate (n - (lg_sl (as.map (mj_v b base))).length) Slot.unset).toArray) := by
  have hl := lv_entry (as.map (mj_v b base)) (n := n) (by rw [mj_sl_len]; exact hn)
  refine ⟨by rw [hl.1]; unfold mj_ent; simp; omega, hl.2.1, fun k v hk => ?_⟩
  have hk2 : (mj_sl as)[k]? = some (some v) := by
    unfold mj_ent at hk
    by_cases hlt : k < (mj_sl as).length
    · rwa [List.getElem?_append_left hlt] at hk
    · rw [List.getElem?_append_right (by omega)] at hk
      have := List.mem_of_getElem? hk
      rw [List.mem_replicate] at this
      cases this.2
  have := mj_sl_mem b base as 0 k v hk2
  rw [Nat.zero_add] at this
  exact hl.2.2 _ this
def mj_ws (ν : mj_Y) : List Cond := Cond.code ν.1 ν.2.1 ν.2.2.1 ν.2.2.2.1 :: lw_g
def mj_B (base : Nat) (D : va_G) (cA : Nat → ClassId) (h : mj_H) (U : State) : Prop := mj_P base D cA h U.heap ∧ va_K D mj_classes (mj_tys cA) U ∧ mj_N U
def mj_Qc (b base : Nat) (D : va_G) (cA : Nat → ClassId) (r : Option Value) (h' : mj_H) : Array Value → State → Outcome → State → Prop := fun _ st oc t => oc = .returned (r.map (mj_v b base)) ∧ mj_P base D cA h' t.heap ∧ va_F (fun q => base ≤ q) st t
theorem mj_met {S : mj_S} {ν : mj_Y} {as : List Value} {h h' : mj_H} {r : Option Value} (g : mj_Go S ν 0 (mj_ent ν.2.2.1 as) [] h r h') (hpl : plainName ν.1.cls = true) (hlaw : ν.1 ≠ yL_law) (hlen : (mj_sl as).length ≤ ν.2.2.1) (l : Launch) (b base : Nat) (D : va_G) (cA : Nat → ClassId) :
    Met l ν.1 (mj_ws ν) ({ frames := ν.2.2.2.2.1, cells := mN h' - mN h, slots := mZ h' - mZ h, locals := ν.2.2.2.2.2 }) (va_Pc (as.map (mj_v b base)) (mj_B base D cA h)) (mj_Qc b base D cA r h') (mN h' - mN h) (mZ h' - mZ h) (fun q => base ≤ q) := by
  refine Met.ofW (cc := ν.2.1) (maxL := ν.2.2.1) (ret := ν.2.2.2.1) hpl rfl ?_
  intro p e s m args below meth c s₁ B hml hv
  obtain ⟨rfl, P, hK, hN⟩ := hv
  have hts := atoms_spec (ws := mj_ws ν) B.pre
  have C : mj_C S ν p (headSpec (mj_ws ν) ({ frames := ν.2.2.2.2.1, cells := mN h' - mN h, slots := mZ h' - mZ h, locals := ν.2.2.2.2.2 })).room s m (as.map (mj_v b base)).toArray meth c b base D cA :=
    ⟨B.exec, B.bytes, hml, findClass_of_methodNamed B.named, B.returns, B.notSynchronized, fun hin => (name_of_methodNamed B.named B.method).1.trans hin, fun w hw => hts w (List.mem_cons_of_mem _ hw), hN, hK, Nat.le_refl _, Nat.le_refl _, by rw [P.2]; omega, fun z => absurd z hlaw⟩
  have key := g.2.2 p l e _ s m _ below meth c b base D cA C (mN h) (mZ h) (MQ below (mj_Qc b base D cA r h') (as.map (mj_v b base)).toArray s (mN h' - mN h) (mZ h' - mZ h) (fun q => base ≤ q)) (Nat.le_refl _) (Nat.le_refl _) (Nat.le_refl _) (Nat.le_refl _) ?_ s.heap [] _ P va_S.rf (mj_entry hlen)
  · rw [Nat.sub_self, Nat.sub_self] at key
    rw [lg_entry_eq]
    exact key
  · intro H locs rls pc P' V' hr
    have hq : ∀ t : State, t.heap = H → s.WarmedH t.vm → mj_Qc b base D cA r h' (as.map (mj_v b base)).toArray s (.returned (r.map (mj_v b base))) t := fun t ht _ => ⟨rfl, by rw [ht]; exact P', V'.F ht⟩
    have hf : ∀ q ∈ locs, (fun q => base ≤ q) q.base := V'.2.2
    match r, hr, hq with
    | none, hr, hq => exact W.vret C.1 C.2.1 (C.2.2.2.2.1.trans hr.1) hq hf hr.2 C.2.2.2.2.2.1
    | some (.int v), ⟨ty, h1, h2, h3⟩, hq => exact W.zret C.1 C.2.1 (C.2.2.2.2.1.trans h1) h2 hq hf h3 C.2.2.2.2.2.1
    | some (.long v), hr, hq => exact W.lret C.1 C.2.1 (C.2.2.2.2.1.trans hr.1) hq hf hr.2 C.2.2.2.2.2.1
    | some (.ref v), ⟨ty, h1, h2, h3⟩, hq => exact W.aret C.1 C.2.1 (C.2.2.2.2.1.trans h1) h2 (Or.inr ⟨_, rfl⟩) hq hf h3 C.2.2.2.2.2.1
    | some .null, ⟨ty, h1, h2, h3⟩, hq => exact W.aret C.1 C.2.1 (C.2.2.2.2.1.trans h1) h2 (Or.inl rfl) hq hf h3 C.2.2.2.2.2.1
theorem mj_AOA_moved {u U : State} (hvm : u.vm.Alike U.vm) (h : mj_AOA u) : mj_AOA U := by
  obtain ⟨comp, c, k, h1, h2, h3, h4, h5⟩ := arrayOverA_spec h
  obtain ⟨k', hk', he⟩ := hvm.2.2 _ _ h3
  have hi : (U.vm.classes.findIdx? fun (x : Class) => match x.kind with | .array component _ => component == comp | _ => false) = some c := by
    rw [hvm.findIdx?_eq _ (fun _ => rfl)]
    exact h2
  have hkind : k'.kind = .array comp (.array .int) := by rw [he]; exact h4
  have f1 : U.vm.findClass (FieldType.array .int).toString = some comp := by rw [hvm.findClass]; exact h1
  have f2 : U.vm.findClass ("[" ++ (FieldType.array .int).toString) = some c := by rw [hvm.findClass]; exact h5
  unfold mj_AOA Cond.before Cond.holds
  simp only [Cond.value]
  rw [f1, Option.bind_some]
  refine (congrArg (fun o : Option Nat => (o.bind (fun c => (U.vm.classes[c]?).map fun (k : Class) => match k.kind with | .array _ ty => decide (ty = FieldType.array .int) && decide (U.vm.findClass ("[" ++ (FieldType.array .int).toString) = some c) | _ => false) == some true)) hi).trans ?_
  simp [hk', hkind, f2]
theorem mj_N_warm {s U : State} (hW : s.WarmedH U.vm) (h : mj_N s) : mj_N U :=
  ⟨va_Nw.warmM hW h.1, va_Nw.warmM hW h.2.1, va_Nw.warmM hW h.2.2.1, va_AO.moved hW.alike h.2.2.2.1, va_AO.moved hW.alike h.2.2.2.2.1, va_AO.moved hW.alike h.2.2.2.2.2.1, mj_AOA_moved hW.alike h.2.2.2.2.2.2.1, va_Nw.warmC hW h.2.2.2.2.2.2.2⟩
theorem mj_N_vm {s U : State} (hv : s.vm = U.vm) (h : mj_N s) : mj_N U := by
  have ha : s.vm.Alike U.vm := by rw [hv]; exact Vm.Alike.refl _
  exact ⟨va_Nw.same rfl hv h.1, va_Nw.same rfl hv h.2.1, va_Nw.same rfl hv h.2.2.1, va_AO.moved ha h.2.2.2.1, va_AO.moved ha h.2.2.2.2.1, va_AO.moved ha h.2.2.2.2.2.1, mj_AOA_moved ha h.2.2.2.2.2.2.1, va_Nw.same rfl hv h.2.2.2.2.2.2.2⟩
theorem mj_blind (av : List Value) (base : Nat) (D : va_G) (cA : Nat → ClassId) (h : mj_H) : FrameBlind (va_Pc av (mj_B base D cA h)) := fun a U g mk q => ⟨q.1, q.2.1, va_K.moved (u := U) (U := U.calling g mk a) (Vm.Alike.refl U.vm) q.2.2.1, mj_N_vm rfl q.2.2.2⟩
/-- static facts of a call -/
def mj_K0 (μ ν : mj_Y) (n : Nat) : Prop := plainName ν.1.cls = true ∧ ν.1 ≠ yL_law ∧ Cond.code ν.1 ν.2.1 ν.2.2.1 ν.2.2.2.1 ∈ lw_g ∧ Cond.initialized ν.1.cls ∈ lw_g ∧ (ν.1.cls ≠ "java/lang/invoke/MethodHandle" ∧ ν.1.cls ≠ "java/lang/invoke/VarHandle" ∧ (parseMethodDescriptor ν.1.desc).map (fun d => d.parameters.length) = some n) ∧ (ν.2.2.2.2.1 + 1 ≤ μ.2.2.2.2.1 ∧ 8 + (ν.2.2.1 + 11) + ν.2.2.2.2.2 ≤ μ.2.2.2.2.2)
def mj_KS (μ ν : mj_Y) (idx n : Nat) : Prop := mj_K0 μ ν n ∧ Cond.methodLink μ.1.cls idx ν.1 ∈ lw_g ∧ Cond.static ν.1 ∈ lw_g
def mj_KV (μ ν : mj_Y) (idx ci n : Nat) : Prop := mj_K0 μ ν n ∧ Cond.methodLink μ.1.cls idx ν.1 ∈ lw_g ∧ Cond.instanceMethod ν.1 ∈ lw_g ∧ Cond.selects ν.1.cls ν.1 ν.1 ∈ lw_g ∧ ∃ T N, mj_classes[ci]? = some (ν.1.cls, T, N)
def mj_KI (μ ν : mj_Y) (idx n : Nat) : Prop := mj_K0 μ ν n ∧ Cond.methodLink μ.1.cls idx ν.1 ∈ lw_g ∧ Cond.instanceMethod ν.1 ∈ lw_g ∧ ν.1.name = "<init>" ∧ ν.2.2.2.1 = none
def mj_KN (μ ν : mj_Y) (idx n : Nat) : Prop := mj_K0 μ ν n ∧ (∀ s : State, mj_N s → va_Nw (.methodLinkNest μ.1.cls idx ν.1 "TileOffice") s) ∧ Cond.instanceMethod ν.1 ∈ lw_g ∧ ν.1.name = "<init>" ∧ ν.2.2.2.1 = none
theorem mj_good (ν : mj_Y) (h : Cond.code ν.1 ν.2.1 ν.2.2.1 ν.2.2.2.1 ∈ lw_g) : GoodIn lw_g (mj_ws ν) := by
  intro w hw
  have hg : ∀ w ∈ lw_g, w ∈ lw_g ∧ ((w.onTables && w.keeps) = true ∨ ∃ ty, w = .arrayClass ty) := fun w h => ⟨h, good_of_word (List.mem_filter.mp h).2⟩
  rcases List.mem_cons.mp hw with rfl | hw
  · exact hg _ h
  · exact hg w hw
section MJC
variable {S : mj_S} {μ ν : mj_Y} {pc idx n ci : Nat} {ls : mj_L} {st stk : List Value} {h : mj_H} {Q Qr : Option Value → mj_H → Prop} {as : List Value}
/-- from a call that the kit runs to what goes on behind it -/
theorem mj_run {p : Program} {l : Launch} {e : Env} {R : Room} {s : State} {m : MethodId} {args : Array Value} {below : List Frame} {meth : Method} {c : Code} {b base : Nat} {D : va_G} {cA : Nat → ClassId} {H : Heap} {locs : List Loc} {cells slots mc ms : Nat} {Q : State → Prop} {rls : Array Slot} {rstk : List Value} {r1 : Option Value} {h1 : mj_H} {av : Array Value}
    (hr : va_Run p l e R s m args below meth c H locs cells slots mc ms (F0 m pc rls rstk) (st.map (mj_v b base)) (mj_Qc b base D cA r1 h1 av) (fun q => base ≤ q)) (V : va_S (fun q => base ≤ q) s.heap H locs)
    (k : ∀ (H1 : Heap) (locs1 : List Loc), mj_P base D cA h1 H1 → va_S (fun q => base ≤ q) s.heap H1 locs1 → W p l e R s m args below meth c H1 locs1 (cells + mc) (slots + ms) Q (F0 m (pc + 3) rls ((r1.toList ++ st).map (mj_v b base)))) : W p l e R s m args below meth c H locs cells slots Q (F0 m pc rls rstk) := by
  intro T hT X
  obtain ⟨v, st₀, t, T', L, h0, X', hL, e1, e2, ⟨hv, P1, hz, hk⟩, go⟩ := hr T hT X
  have hv : v = r1.map (mj_v b base) := by cases hv; rfl
  subst hv
  rw [h0] at hz hk
  have V1 : va_S (fun q => base ≤ q) s.heap T'.heap (locs ++ L) := by
    refine ⟨by rw [e1]; exact Nat.le_trans V.1 hz, fun q q1 q2 => ?_, fun q hq => ?_⟩
    · rw [e1, hk q (Nat.lt_of_lt_of_le q1 V.1) q2]
      exact V.2.1 q q1 q2
    · rcases List.mem_append.mp hq with z | z
      · exact V.2.2 q z
      · exact hL q z
  obtain ⟨t2, a1, b1⟩ := k T'.heap _ (by rw [e1]; exact P1) V1 T' rfl X'
  refine ⟨t2, go t2 ?_, b1⟩
  have es : (Option.map (mj_v b base) r1).toList ++ st.map (mj_v b base) = (r1.toList ++ st).map (mj_v b base) := by cases r1 <;> simp
  show Steps p.tables e below (T'.setTop { F0 m pc rls rstk with pc := pc + 3, stack := (Option.map (mj_v b base) r1).toList ++ st.map (mj_v b base) }) t2
  rw [es]
  exact a1
/-- the rule of calls, whatever kind of call -/
theorem mj_callX (hc : Ex S ν 0 (mj_ent ν.2.2.1 as) [] h Qr) (k : ∀ r h1, Qr r h1 → Ex S μ (pc + 3) ls (r.toList ++ st) h1 Q)
    (hrun : ∀ {p : Program} {l : Launch} {e : Env} {R : Room} {s : State} {m : MethodId} {args : Array Value} {below : List Frame} {meth : Method} {c : Code} {b base : Nat} {D : va_G} {cA : Nat → ClassId} {H : Heap} {locs : List Loc} {cells slots mc ms : Nat} {rls : Array Slot} {r1 : Option Value} {h1 : mj_H},
      mj_C S μ p R s m args meth c b base D cA → mj_P base D cA h H → mj_l b base ls rls → Met l ν.1 (mj_ws ν) ({ frames := ν.2.2.2.2.1, cells := mc, slots := ms, locals := ν.2.2.2.2.2 }) (va_Pc (as.map (mj_v b base)) (mj_B base D cA h)) (mj_Qc b base D cA r1 h1) mc ms (fun q => base ≤ q) → cells + mc ≤ R.cells ∧ slots + ms ≤ R.slots →
      (∀ U : State, U.heap = H → s.WarmedH U.vm → mj_B base D cA h U) → va_Run p l e R s m args below meth c H locs cells slots mc ms (F0 m pc rls (stk.map (mj_v b base))) (st.map (mj_v b base)) (mj_Qc b base D cA r1 h1 (as.map (mj_v b base)).toArray) (fun q => base ≤ q))
    (hpl : plainName ν.1.cls = true) (hlaw : ν.1 ≠ yL_law) (hlen : (mj_sl as).length ≤ ν.2.2.1) : Ex S μ pc ls stk h Q := by
  obtain ⟨r1, h1, q1, g1⟩ := hc
  obtain ⟨r, h', q, g⟩ := k r1 h1 q1
  have n1 := g1.1
  have z1 := g1.2.1
  have n2 := g.1
  have z2 := g.2.1
  refine ⟨r, h', q, by omega, by omega, ?_⟩
  intro p l e R s m args below meth c b base D cA C n0 z0 Q hn hz hc hl E H locs rls P V L
  have M := mj_met g1 hpl hlaw hlen l b base D cA
  refine mj_run (hrun C P L M ⟨by omega, by omega⟩ (fun U hU hW => ⟨by rw [hU]; exact P, va_K.moved hW.alike C.2.2.2.2.2.2.2.2.2.1, mj_N_warm hW C.2.2.2.2.2.2.2.2.1⟩)) V (fun H1 locs1 P1 V1 => ?_)
  have z := g.2.2 p l e R s m args below meth c b base D cA C n0 z0 Q (by omega) (by omega) hc hl E H1 locs1 rls P1 V1 L
  rw [show mN h1 - n0 = mN h - n0 + (mN h1 - mN h) by omega, show mZ h1 - z0 = mZ h - z0 + (mZ h1 - mZ h) by omega] at z
  exact z
theorem mj_room8 {m : MethodId} {rls : Array Slot} {x : List Value} {b base : Nat} {st : List Value} (h : mj_cat st ≤ 8) : 2 * (F0 m pc rls x).monitorRoom + ((st.map (mj_v b base)).map fun v => v.category).sum ≤ 8 := by
  rw [mj_cat_map]
  show 2 * 0 + _ ≤ 8
  omega
theorem Ex_callS (hd : decode μ.2.1 pc = .ok (.invokestatic idx, 3)) (hk : mj_KS μ ν idx n) (as : List Value) (hn : as.length = n) (hs : (mj_sl as).length ≤ ν.2.2.1) (hst : mj_cat st ≤ 8) (hl : ls.length = μ.2.2.1) (hstk : as.reverse ++ st = stk) (hc : Ex S ν 0 (mj_ent ν.2.2.1 as) [] h Qr) (k : ∀ r h1, Qr r h1 → Ex S μ (pc + 3) ls (r.toList ++ st) h1 Q) : Ex S μ pc ls stk h Q := by
  subst hstk
  obtain ⟨⟨k1, k2, k3, k4, k5, k6⟩, k7, k8⟩ := hk
  refine mj_callX hc k (fun {p l e R s m args below meth c b base D cA H locs cells slots mc ms rls r1 h1} C P L M hf hB => ?_) k1 k2 hs
  have hts := C.2.2.2.2.2.2.2.1
  have hR : ν.2.2.2.2.1 + 1 ≤ R.frames ∧ 8 + (ν.2.2.1 + 11) + ν.2.2.2.2.2 ≤ R.locals := ⟨Nat.le_trans k6.1 C.2.2.2.2.2.2.2.2.2.2.1, Nat.le_trans k6.2 C.2.2.2.2.2.2.2.2.2.2.2.1⟩
  exact va_runS (As := as.map (mj_v b base)) (rest := st.map (mj_v b base)) ⟨C.1, C.2.1, C.2.2.1, C.2.2.2.1, hts⟩ M ⟨callB_of n hts (mj_good ν k3) rfl rfl rfl (hts _ k4) (hts _ k7) k5 hR, hts _ k8⟩ ⟨mj_blind _ _ _ _ _, fun U hU hW => ⟨rfl, hB U hU hW⟩⟩ rfl (by rw [List.length_map]; exact hn) (by show rls.size = _; rw [L.1, hl]) (by show List.map _ _ = _; rw [List.map_append, List.map_reverse]) (mj_room8 hst) hd hf
theorem Ex_callV {x w : Nat} (hd : decode μ.2.1 pc = .ok (.invokevirtual idx, 3)) (hk : mj_KV μ ν idx ci n) (as : List Value) (hn : as.length = n) (ht : mT h x = some (10 + ci, w)) (hs : (mj_sl (.ref x :: as)).length ≤ ν.2.2.1) (hst : mj_cat st ≤ 8) (hl : ls.length = μ.2.2.1) (hstk : as.reverse ++ .ref x :: st = stk) (hc : Ex S ν 0 (mj_ent ν.2.2.1 (.ref x :: as)) [] h Qr) (k : ∀ r h1, Qr r h1 → Ex S μ (pc + 3) ls (r.toList ++ st) h1 Q) : Ex S μ pc ls stk h Q := by
  subst hstk
  obtain ⟨⟨k1, k2, k3, k4, k5, k6⟩, k7, k8, k9, T, N, k10⟩ := hk
  refine mj_callX hc k (fun {p l e R s m args below meth c b base D cA H locs cells slots mc ms rls r1 h1} C P L M hf hB => ?_) k1 k2 hs
  have hts := C.2.2.2.2.2.2.2.1
  have hK : va_K D mj_classes (mj_tys cA) s := C.2.2.2.2.2.2.2.2.2.1
  have hR : ν.2.2.2.2.1 + 1 ≤ R.frames ∧ 8 + (ν.2.2.1 + 11) + ν.2.2.2.2.2 ≤ R.locals := ⟨Nat.le_trans k6.1 C.2.2.2.2.2.2.2.2.2.2.1, Nat.le_trans k6.2 C.2.2.2.2.2.2.2.2.2.2.2.1⟩
  have ev := mj_w_get (base := base) (cA := cA) ht
  rw [mj_e_obj] at ev
  exact va_runV (C := ν.1.cls) (b := base + x) (As := as.map (mj_v b base)) (rest := st.map (mj_v b base)) ⟨C.1, C.2.1, C.2.2.1, C.2.2.2.1, hts⟩ M ⟨callB_of n hts (mj_good ν k3) rfl rfl rfl (hts _ k4) (hts _ k7) k5 hR, hts _ k8, hts _ k9⟩ ⟨mj_blind _ _ _ _ _, va_recv hK P.1 k10 ev, fun U hU hW => ⟨rfl, hB U hU hW⟩⟩ rfl (by rw [List.length_map]; exact hn) (by show rls.size = _; rw [L.1, hl]) (by show List.map _ _ = _; rw [List.map_append, List.map_reverse]; rfl) (mj_room8 hst) hd hf
theorem Ex_callI {x : Nat} (hd : decode μ.2.1 pc = .ok (.invokespecial idx, 3)) (hk : mj_KI μ ν idx n) (as : List Value) (hn : as.length = n) (hs : (mj_sl (.ref x :: as)).length ≤ ν.2.2.1) (hst : mj_cat st ≤ 8) (hl : ls.length = μ.2.2.1) (hstk : as.reverse ++ .ref x :: st = stk) (hc : Ex S ν 0 (mj_ent ν.2.2.1 (.ref x :: as)) [] h Qr) (k : ∀ r h1, Qr r h1 → Ex S μ (pc + 3) ls (r.toList ++ st) h1 Q) : Ex S μ pc ls stk h Q := by
  subst hstk
  obtain ⟨⟨k1, k2, k3, k4, k5, k6⟩, k7, k8, k9, k10⟩ := hk
  refine mj_callX hc k (fun {p l e R s m args below meth c b base D cA H locs cells slots mc ms rls r1 h1} C P L M hf hB => ?_) k1 k2 hs
  have hts := C.2.2.2.2.2.2.2.1
  have hR : ν.2.2.2.2.1 + 1 ≤ R.frames ∧ 8 + (ν.2.2.1 + 11) + ν.2.2.2.2.2 ≤ R.locals := ⟨Nat.le_trans k6.1 C.2.2.2.2.2.2.2.2.2.2.1, Nat.le_trans k6.2 C.2.2.2.2.2.2.2.2.2.2.2.1⟩
  have hw : mj_ws ν = Cond.code ν.1 ν.2.1 ν.2.2.1 none :: lw_g := by unfold mj_ws; rw [k10]
  exact va_runI (b := base + x) (As := as.map (mj_v b base)) (rest := st.map (mj_v b base)) ⟨C.1, C.2.1, C.2.2.1, C.2.2.2.1, hts⟩ M ⟨callB_of n hts (mj_good ν k3) hw rfl rfl (hts _ k4) (hts _ k7) k5 hR, k9, hts _ k8⟩ ⟨mj_blind _ _ _ _ _, fun U hU hW => ⟨rfl, hB U hU hW⟩⟩ rfl (by rw [List.length_map]; exact hn) (by show rls.size = _; rw [L.1, hl]) (by show List.map _ _ = _; rw [List.map_append, List.map_reverse]; rfl) (mj_room8 hst) hd hf
theorem Ex_callN {x : Nat} (hd : decode μ.2.1 pc = .ok (.invokespecial idx, 3)) (hk : mj_KN μ ν idx n) (as : List Value) (hn : as.length = n) (hs : (mj_sl (.ref x :: as)).length ≤ ν.2.2.1) (hst : mj_cat st ≤ 8) (hl : ls.length = μ.2.2.1) (hstk : as.reverse ++ .ref x :: st = stk) (hc : Ex S ν 0 (mj_ent ν.2.2.1 (.ref x :: as)) [] h Qr) (k : ∀ r h1, Qr r h1 → Ex S μ (pc + 3) ls (r.toList ++ st) h1 Q) : Ex S μ pc ls stk h Q := by
  subst hstk
  obtain ⟨⟨k1, k2, k3, k4, k5, k6⟩, k7, k8, k9, k10⟩ := hk
  refine mj_callX hc k (fun {p l e R s m args below meth c b base D cA H locs cells slots mc ms rls r1 h1} C P L M hf hB => ?_) k1 k2 hs
  have hts := C.2.2.2.2.2.2.2.1
  have hR : ν.2.2.2.2.1 + 1 ≤ R.frames ∧ 8 + (ν.2.2.1 + 11) + ν.2.2.2.2.2 ≤ R.locals := ⟨Nat.le_trans k6.1 C.2.2.2.2.2.2.2.2.2.2.1, Nat.le_trans k6.2 C.2.2.2.2.2.2.2.2.2.2.2.1⟩
  have hw : mj_ws ν = Cond.code ν.1 ν.2.1 ν.2.2.1 none :: lw_g := by unfold mj_ws; rw [k10]
  exact va_runIN (b := base + x) (As := as.map (mj_v b base)) (rest := st.map (mj_v b base)) ⟨C.1, C.2.1, C.2.2.1, C.2.2.2.1, hts⟩ M ⟨va_cnB n hts (mj_good ν k3) hw rfl rfl (k7 s C.2.2.2.2.2.2.2.2.1) (hts _ k4) k5 hR, k9, hts _ k8⟩ ⟨mj_blind _ _ _ _ _, fun U hU hW => ⟨rfl, hB U hU hW⟩⟩ rfl (by rw [List.length_map]; exact hn) (by show rls.size = _; rw [L.1, hl]) (by show List.map _ _ = _; rw [List.map_append, List.map_reverse]; rfl) (mj_room8 hst) hd hf
end MJC
end
