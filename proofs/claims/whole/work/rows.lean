section
-- ===== PART A: goes FIRST, ahead of the names: the tables' words, and 'selects' of the private methods out of them =====
/-- a private method of a class that the tables say can be made, by its rows of tables_1 -/
def lw_okq (q : MethodName × Nat) : Prop := (q.1.cls ≠ "java/lang/invoke/MethodHandle" ∧ q.1.cls ≠ "java/lang/invoke/VarHandle") ∧ Cond.instantiable q.1.cls q.2 ∈ tables_1 ∧ Cond.privateMethod q.1 ∈ tables_1 ∧ Cond.instanceMethod q.1 ∈ tables_1
theorem lw_p0 : lw_okq (⟨"TileOffice", "keep", "(LTileOffice$Pattern;)I"⟩, 15) := ⟨⟨by decide +kernel, by decide +kernel⟩, List.mem_of_getElem? (i := 20) (by decide +kernel), List.mem_of_getElem? (i := 372) (by decide +kernel), List.mem_of_getElem? (i := 373) (by decide +kernel)⟩
theorem lw_p1 : lw_okq (⟨"TileOffice", "patternOf", "(I)LTileOffice$Pattern;"⟩, 15) := ⟨⟨by decide +kernel, by decide +kernel⟩, List.mem_of_getElem? (i := 20) (by decide +kernel), List.mem_of_getElem? (i := 380) (by decide +kernel), List.mem_of_getElem? (i := 381) (by decide +kernel)⟩
theorem lw_p2 : lw_okq (⟨"TileOffice$RowStore", "enter", "([II)I"⟩, 3) := ⟨⟨by decide +kernel, by decide +kernel⟩, List.mem_of_getElem? (i := 172) (by decide +kernel), List.mem_of_getElem? (i := 409) (by decide +kernel), List.mem_of_getElem? (i := 410) (by decide +kernel)⟩
theorem lw_p3 : lw_okq (⟨"TileOffice", "setCell", "(IIII)Z"⟩, 15) := ⟨⟨by decide +kernel, by decide +kernel⟩, List.mem_of_getElem? (i := 20) (by decide +kernel), List.mem_of_getElem? (i := 443) (by decide +kernel), List.mem_of_getElem? (i := 444) (by decide +kernel)⟩
theorem lw_p4 : lw_okq (⟨"TileOffice$RowStore", "cellsOf", "(I)[I"⟩, 3) := ⟨⟨by decide +kernel, by decide +kernel⟩, List.mem_of_getElem? (i := 172) (by decide +kernel), List.mem_of_getElem? (i := 456) (by decide +kernel), List.mem_of_getElem? (i := 457) (by decide +kernel)⟩
theorem lw_p5 : lw_okq (⟨"TileOffice", "isKindInMove", "(II)Z"⟩, 15) := ⟨⟨by decide +kernel, by decide +kernel⟩, List.mem_of_getElem? (i := 20) (by decide +kernel), List.mem_of_getElem? (i := 482) (by decide +kernel), List.mem_of_getElem? (i := 483) (by decide +kernel)⟩
theorem lw_p6 : lw_okq (⟨"TileOffice", "placesOf", "(I)I"⟩, 15) := ⟨⟨by decide +kernel, by decide +kernel⟩, List.mem_of_getElem? (i := 20) (by decide +kernel), List.mem_of_getElem? (i := 522) (by decide +kernel), List.mem_of_getElem? (i := 523) (by decide +kernel)⟩
theorem lw_p7 : lw_okq (⟨"TileOffice$Block", "setCell", "(III)V"⟩, 3) := ⟨⟨by decide +kernel, by decide +kernel⟩, List.mem_of_getElem? (i := 216) (by decide +kernel), List.mem_of_getElem? (i := 567) (by decide +kernel), List.mem_of_getElem? (i := 568) (by decide +kernel)⟩
theorem lw_p8 : lw_okq (⟨"TileOffice$Block", "hasPlace", "(II)Z"⟩, 3) := ⟨⟨by decide +kernel, by decide +kernel⟩, List.mem_of_getElem? (i := 216) (by decide +kernel), List.mem_of_getElem? (i := 571) (by decide +kernel), List.mem_of_getElem? (i := 572) (by decide +kernel)⟩
theorem lw_p9 : lw_okq (⟨"TileOffice", "cellsThatCome", "(LTileOffice$Pattern;III)I"⟩, 15) := ⟨⟨by decide +kernel, by decide +kernel⟩, List.mem_of_getElem? (i := 20) (by decide +kernel), List.mem_of_getElem? (i := 607) (by decide +kernel), List.mem_of_getElem? (i := 608) (by decide +kernel)⟩
theorem lw_p10 : lw_okq (⟨"TileOffice", "comes", "(LTileOffice$Pattern;IIII)Z"⟩, 15) := ⟨⟨by decide +kernel, by decide +kernel⟩, List.mem_of_getElem? (i := 20) (by decide +kernel), List.mem_of_getElem? (i := 611) (by decide +kernel), List.mem_of_getElem? (i := 612) (by decide +kernel)⟩
theorem lw_p11 : lw_okq (⟨"TileOffice", "pasteRows", "(LTileOffice$Pattern;II)V"⟩, 15) := ⟨⟨by decide +kernel, by decide +kernel⟩, List.mem_of_getElem? (i := 20) (by decide +kernel), List.mem_of_getElem? (i := 616) (by decide +kernel), List.mem_of_getElem? (i := 617) (by decide +kernel)⟩
theorem lw_p12 : lw_okq (⟨"TileOffice", "ruleOf", "(I)LTileOffice$Rule;"⟩, 15) := ⟨⟨by decide +kernel, by decide +kernel⟩, List.mem_of_getElem? (i := 20) (by decide +kernel), List.mem_of_getElem? (i := 655) (by decide +kernel), List.mem_of_getElem? (i := 656) (by decide +kernel)⟩
theorem lw_p13 : lw_okq (⟨"TileOffice$Rule", "hasCell", "(III)Z"⟩, 5) := ⟨⟨by decide +kernel, by decide +kernel⟩, List.mem_of_getElem? (i := 626) (by decide +kernel), List.mem_of_getElem? (i := 667) (by decide +kernel), List.mem_of_getElem? (i := 668) (by decide +kernel)⟩
theorem lw_p14 : lw_okq (⟨"TileOffice", "growsStraight", "(LTileOffice$Pattern;LTileOffice$Rule;I)Z"⟩, 15) := ⟨⟨by decide +kernel, by decide +kernel⟩, List.mem_of_getElem? (i := 20) (by decide +kernel), List.mem_of_getElem? (i := 687) (by decide +kernel), List.mem_of_getElem? (i := 688) (by decide +kernel)⟩
theorem lw_p15 : lw_okq (⟨"TileOffice", "grownCell", "(LTileOffice$Pattern;LTileOffice$Rule;III)I"⟩, 15) := ⟨⟨by decide +kernel, by decide +kernel⟩, List.mem_of_getElem? (i := 20) (by decide +kernel), List.mem_of_getElem? (i := 691) (by decide +kernel), List.mem_of_getElem? (i := 692) (by decide +kernel)⟩
def lw_privs_1 : List (MethodName × Nat) := [(⟨"TileOffice", "keep", "(LTileOffice$Pattern;)I"⟩, 15), (⟨"TileOffice", "patternOf", "(I)LTileOffice$Pattern;"⟩, 15), (⟨"TileOffice$RowStore", "enter", "([II)I"⟩, 3), (⟨"TileOffice", "setCell", "(IIII)Z"⟩, 15), (⟨"TileOffice$RowStore", "cellsOf", "(I)[I"⟩, 3), (⟨"TileOffice", "isKindInMove", "(II)Z"⟩, 15), (⟨"TileOffice", "placesOf", "(I)I"⟩, 15), (⟨"TileOffice$Block", "setCell", "(III)V"⟩, 3), (⟨"TileOffice$Block", "hasPlace", "(II)Z"⟩, 3), (⟨"TileOffice", "cellsThatCome", "(LTileOffice$Pattern;III)I"⟩, 15), (⟨"TileOffice", "comes", "(LTileOffice$Pattern;IIII)Z"⟩, 15), (⟨"TileOffice", "pasteRows", "(LTileOffice$Pattern;II)V"⟩, 15), (⟨"TileOffice", "ruleOf", "(I)LTileOffice$Rule;"⟩, 15), (⟨"TileOffice$Rule", "hasCell", "(III)Z"⟩, 5), (⟨"TileOffice", "growsStraight", "(LTileOffice$Pattern;LTileOffice$Rule;I)Z"⟩, 15), (⟨"TileOffice", "grownCell", "(LTileOffice$Pattern;LTileOffice$Rule;III)I"⟩, 15)]
theorem lw_r1 : ∀ q ∈ lw_privs_1, lw_okq q := List.forall_mem_cons.mpr ⟨lw_p0, List.forall_mem_cons.mpr ⟨lw_p1, List.forall_mem_cons.mpr ⟨lw_p2, List.forall_mem_cons.mpr ⟨lw_p3, List.forall_mem_cons.mpr ⟨lw_p4, List.forall_mem_cons.mpr ⟨lw_p5, List.forall_mem_cons.mpr ⟨lw_p6, List.forall_mem_cons.mpr ⟨lw_p7, List.forall_mem_cons.mpr ⟨lw_p8, List.forall_mem_cons.mpr ⟨lw_p9, List.forall_mem_cons.mpr ⟨lw_p10, List.forall_mem_cons.mpr ⟨lw_p11, List.forall_mem_cons.mpr ⟨lw_p12, List.forall_mem_cons.mpr ⟨lw_p13, List.forall_mem_cons.mpr ⟨lw_p14, List.forall_mem_cons.mpr ⟨lw_p15, fun _ h => absurd h List.not_mem_nil⟩⟩⟩⟩⟩⟩⟩⟩⟩⟩⟩⟩⟩⟩⟩⟩
theorem lw_p16 : lw_okq (⟨"TileOffice$Rule", "rowBefore", "(III)I"⟩, 5) := ⟨⟨by decide +kernel, by decide +kernel⟩, List.mem_of_getElem? (i := 626) (by decide +kernel), List.mem_of_getElem? (i := 706) (by decide +kernel), List.mem_of_getElem? (i := 707) (by decide +kernel)⟩
theorem lw_p17 : lw_okq (⟨"TileOffice$Rule", "columnBefore", "(III)I"⟩, 5) := ⟨⟨by decide +kernel, by decide +kernel⟩, List.mem_of_getElem? (i := 626) (by decide +kernel), List.mem_of_getElem? (i := 710) (by decide +kernel), List.mem_of_getElem? (i := 711) (by decide +kernel)⟩
theorem lw_p18 : lw_okq (⟨"TileOffice$Rule", "cellAt", "(III)I"⟩, 5) := ⟨⟨by decide +kernel, by decide +kernel⟩, List.mem_of_getElem? (i := 626) (by decide +kernel), List.mem_of_getElem? (i := 715) (by decide +kernel), List.mem_of_getElem? (i := 716) (by decide +kernel)⟩
theorem lw_p19 : lw_okq (⟨"TileOffice", "grownRow", "(LTileOffice$Pattern;LTileOffice$Rule;II)I"⟩, 15) := ⟨⟨by decide +kernel, by decide +kernel⟩, List.mem_of_getElem? (i := 20) (by decide +kernel), List.mem_of_getElem? (i := 722) (by decide +kernel), List.mem_of_getElem? (i := 723) (by decide +kernel)⟩
theorem lw_p20 : lw_okq (⟨"TileOffice$Rule", "foretellStep", "([J[J)V"⟩, 5) := ⟨⟨by decide +kernel, by decide +kernel⟩, List.mem_of_getElem? (i := 626) (by decide +kernel), List.mem_of_getElem? (i := 739) (by decide +kernel), List.mem_of_getElem? (i := 740) (by decide +kernel)⟩
theorem lw_p21 : lw_okq (⟨"TileOffice", "markFound", "(LTileOffice$Pattern;I)V"⟩, 15) := ⟨⟨by decide +kernel, by decide +kernel⟩, List.mem_of_getElem? (i := 20) (by decide +kernel), List.mem_of_getElem? (i := 803) (by decide +kernel), List.mem_of_getElem? (i := 804) (by decide +kernel)⟩
theorem lw_p22 : lw_okq (⟨"TileOffice", "foundAt", "(I)I"⟩, 15) := ⟨⟨by decide +kernel, by decide +kernel⟩, List.mem_of_getElem? (i := 20) (by decide +kernel), List.mem_of_getElem? (i := 808) (by decide +kernel), List.mem_of_getElem? (i := 809) (by decide +kernel)⟩
theorem lw_p23 : lw_okq (⟨"TileOffice", "floorOf", "(I)LTileOffice$Floor;"⟩, 15) := ⟨⟨by decide +kernel, by decide +kernel⟩, List.mem_of_getElem? (i := 20) (by decide +kernel), List.mem_of_getElem? (i := 856) (by decide +kernel), List.mem_of_getElem? (i := 857) (by decide +kernel)⟩
theorem lw_p24 : lw_okq (⟨"TileOffice$Choices", "enter", "(I)V"⟩, 4) := ⟨⟨by decide +kernel, by decide +kernel⟩, List.mem_of_getElem? (i := 61) (by decide +kernel), List.mem_of_getElem? (i := 903) (by decide +kernel), List.mem_of_getElem? (i := 904) (by decide +kernel)⟩
theorem lw_p25 : lw_okq (⟨"TileOffice$Choices", "mark", "(II)V"⟩, 4) := ⟨⟨by decide +kernel, by decide +kernel⟩, List.mem_of_getElem? (i := 61) (by decide +kernel), List.mem_of_getElem? (i := 912) (by decide +kernel), List.mem_of_getElem? (i := 913) (by decide +kernel)⟩
theorem lw_p26 : lw_okq (⟨"TileOffice$Board", "has", "(I)Z"⟩, 11) := ⟨⟨by decide +kernel, by decide +kernel⟩, List.mem_of_getElem? (i := 59) (by decide +kernel), List.mem_of_getElem? (i := 920) (by decide +kernel), List.mem_of_getElem? (i := 921) (by decide +kernel)⟩
theorem lw_p27 : lw_okq (⟨"TileOffice$Board", "lookAround", "(I)V"⟩, 11) := ⟨⟨by decide +kernel, by decide +kernel⟩, List.mem_of_getElem? (i := 59) (by decide +kernel), List.mem_of_getElem? (i := 929) (by decide +kernel), List.mem_of_getElem? (i := 930) (by decide +kernel)⟩
theorem lw_p28 : lw_okq (⟨"TileOffice$Board", "beside", "(II)I"⟩, 11) := ⟨⟨by decide +kernel, by decide +kernel⟩, List.mem_of_getElem? (i := 59) (by decide +kernel), List.mem_of_getElem? (i := 933) (by decide +kernel), List.mem_of_getElem? (i := 934) (by decide +kernel)⟩
theorem lw_p29 : lw_okq (⟨"TileOffice$Board", "codeAt", "(I)I"⟩, 11) := ⟨⟨by decide +kernel, by decide +kernel⟩, List.mem_of_getElem? (i := 59) (by decide +kernel), List.mem_of_getElem? (i := 937) (by decide +kernel), List.mem_of_getElem? (i := 938) (by decide +kernel)⟩
theorem lw_p30 : lw_okq (⟨"TileOffice$Board", "recountAll", "()V"⟩, 11) := ⟨⟨by decide +kernel, by decide +kernel⟩, List.mem_of_getElem? (i := 59) (by decide +kernel), List.mem_of_getElem? (i := 942) (by decide +kernel), List.mem_of_getElem? (i := 943) (by decide +kernel)⟩
theorem lw_p31 : lw_okq (⟨"TileOffice$Board", "recount", "(I)V"⟩, 11) := ⟨⟨by decide +kernel, by decide +kernel⟩, List.mem_of_getElem? (i := 59) (by decide +kernel), List.mem_of_getElem? (i := 946) (by decide +kernel), List.mem_of_getElem? (i := 947) (by decide +kernel)⟩
def lw_privs_2 : List (MethodName × Nat) := [(⟨"TileOffice$Rule", "rowBefore", "(III)I"⟩, 5), (⟨"TileOffice$Rule", "columnBefore", "(III)I"⟩, 5), (⟨"TileOffice$Rule", "cellAt", "(III)I"⟩, 5), (⟨"TileOffice", "grownRow", "(LTileOffice$Pattern;LTileOffice$Rule;II)I"⟩, 15), (⟨"TileOffice$Rule", "foretellStep", "([J[J)V"⟩, 5), (⟨"TileOffice", "markFound", "(LTileOffice$Pattern;I)V"⟩, 15), (⟨"TileOffice", "foundAt", "(I)I"⟩, 15), (⟨"TileOffice", "floorOf", "(I)LTileOffice$Floor;"⟩, 15), (⟨"TileOffice$Choices", "enter", "(I)V"⟩, 4), (⟨"TileOffice$Choices", "mark", "(II)V"⟩, 4), (⟨"TileOffice$Board", "has", "(I)Z"⟩, 11), (⟨"TileOffice$Board", "lookAround", "(I)V"⟩, 11), (⟨"TileOffice$Board", "beside", "(II)I"⟩, 11), (⟨"TileOffice$Board", "codeAt", "(I)I"⟩, 11), (⟨"TileOffice$Board", "recountAll", "()V"⟩, 11), (⟨"TileOffice$Board", "recount", "(I)V"⟩, 11)]
theorem lw_r2 : ∀ q ∈ lw_privs_2, lw_okq q := List.forall_mem_cons.mpr ⟨lw_p16, List.forall_mem_cons.mpr ⟨lw_p17, List.forall_mem_cons.mpr ⟨lw_p18, List.forall_mem_cons.mpr ⟨lw_p19, List.forall_mem_cons.mpr ⟨lw_p20, List.forall_mem_cons.mpr ⟨lw_p21, List.forall_mem_cons.mpr ⟨lw_p22, List.forall_mem_cons.mpr ⟨lw_p23, List.forall_mem_cons.mpr ⟨lw_p24, List.forall_mem_cons.mpr ⟨lw_p25, List.forall_mem_cons.mpr ⟨lw_p26, List.forall_mem_cons.mpr ⟨lw_p27, List.forall_mem_cons.mpr ⟨lw_p28, List.forall_mem_cons.mpr ⟨lw_p29, List.forall_mem_cons.mpr ⟨lw_p30, List.forall_mem_cons.mpr ⟨lw_p31, fun _ h => absurd h List.not_mem_nil⟩⟩⟩⟩⟩⟩⟩⟩⟩⟩⟩⟩⟩⟩⟩⟩
theorem lw_p32 : lw_okq (⟨"TileOffice$Board", "isWaiting", "(I)Z"⟩, 11) := ⟨⟨by decide +kernel, by decide +kernel⟩, List.mem_of_getElem? (i := 59) (by decide +kernel), List.mem_of_getElem? (i := 950) (by decide +kernel), List.mem_of_getElem? (i := 951) (by decide +kernel)⟩
theorem lw_p33 : lw_okq (⟨"TileOffice$Board", "fittingWord", "(II)J"⟩, 11) := ⟨⟨by decide +kernel, by decide +kernel⟩, List.mem_of_getElem? (i := 59) (by decide +kernel), List.mem_of_getElem? (i := 954) (by decide +kernel), List.mem_of_getElem? (i := 955) (by decide +kernel)⟩
theorem lw_p34 : lw_okq (⟨"TileOffice$Search", "leastCostOn", "(LTileOffice$Floor;)I"⟩, 13) := ⟨⟨by decide +kernel, by decide +kernel⟩, List.mem_of_getElem? (i := 122) (by decide +kernel), List.mem_of_getElem? (i := 966) (by decide +kernel), List.mem_of_getElem? (i := 967) (by decide +kernel)⟩
theorem lw_p35 : lw_okq (⟨"TileOffice$Search", "noteFill", "(LTileOffice$Floor;)V"⟩, 13) := ⟨⟨by decide +kernel, by decide +kernel⟩, List.mem_of_getElem? (i := 122) (by decide +kernel), List.mem_of_getElem? (i := 980) (by decide +kernel), List.mem_of_getElem? (i := 981) (by decide +kernel)⟩
theorem lw_p36 : lw_okq (⟨"TileOffice$Search", "explore", "(LTileOffice$Floor;I)V"⟩, 13) := ⟨⟨by decide +kernel, by decide +kernel⟩, List.mem_of_getElem? (i := 122) (by decide +kernel), List.mem_of_getElem? (i := 992) (by decide +kernel), List.mem_of_getElem? (i := 993) (by decide +kernel)⟩
theorem lw_p37 : lw_okq (⟨"TileOffice$Search", "openDepth", "(I)V"⟩, 13) := ⟨⟨by decide +kernel, by decide +kernel⟩, List.mem_of_getElem? (i := 122) (by decide +kernel), List.mem_of_getElem? (i := 996) (by decide +kernel), List.mem_of_getElem? (i := 997) (by decide +kernel)⟩
theorem lw_p38 : lw_okq (⟨"TileOffice$Search", "nextTry", "()I"⟩, 13) := ⟨⟨by decide +kernel, by decide +kernel⟩, List.mem_of_getElem? (i := 122) (by decide +kernel), List.mem_of_getElem? (i := 1005) (by decide +kernel), List.mem_of_getElem? (i := 1006) (by decide +kernel)⟩
theorem lw_p39 : lw_okq (⟨"TileOffice$Search", "isPassedOver", "(I)Z"⟩, 13) := ⟨⟨by decide +kernel, by decide +kernel⟩, List.mem_of_getElem? (i := 122) (by decide +kernel), List.mem_of_getElem? (i := 1021) (by decide +kernel), List.mem_of_getElem? (i := 1022) (by decide +kernel)⟩
theorem lw_p40 : lw_okq (⟨"TileOffice$Search", "costOf", "(I)I"⟩, 13) := ⟨⟨by decide +kernel, by decide +kernel⟩, List.mem_of_getElem? (i := 122) (by decide +kernel), List.mem_of_getElem? (i := 1025) (by decide +kernel), List.mem_of_getElem? (i := 1026) (by decide +kernel)⟩
theorem lw_p41 : lw_okq (⟨"TileOffice$Search", "openAgain", "(I)V"⟩, 13) := ⟨⟨by decide +kernel, by decide +kernel⟩, List.mem_of_getElem? (i := 122) (by decide +kernel), List.mem_of_getElem? (i := 1037) (by decide +kernel), List.mem_of_getElem? (i := 1038) (by decide +kernel)⟩
theorem lw_p42 : lw_okq (⟨"TileOffice$Board", "changeLeft", "(II)Z"⟩, 11) := ⟨⟨by decide +kernel, by decide +kernel⟩, List.mem_of_getElem? (i := 59) (by decide +kernel), List.mem_of_getElem? (i := 1045) (by decide +kernel), List.mem_of_getElem? (i := 1046) (by decide +kernel)⟩
theorem lw_p43 : lw_okq (⟨"TileOffice$Board", "flipLeftBits", "(I)V"⟩, 11) := ⟨⟨by decide +kernel, by decide +kernel⟩, List.mem_of_getElem? (i := 59) (by decide +kernel), List.mem_of_getElem? (i := 1050) (by decide +kernel), List.mem_of_getElem? (i := 1051) (by decide +kernel)⟩
theorem lw_p44 : lw_okq (⟨"TileOffice$Board", "tellAround", "(I)V"⟩, 11) := ⟨⟨by decide +kernel, by decide +kernel⟩, List.mem_of_getElem? (i := 59) (by decide +kernel), List.mem_of_getElem? (i := 1054) (by decide +kernel), List.mem_of_getElem? (i := 1055) (by decide +kernel)⟩
theorem lw_p45 : lw_okq (⟨"TileOffice$Search", "noteTry", "(I)V"⟩, 13) := ⟨⟨by decide +kernel, by decide +kernel⟩, List.mem_of_getElem? (i := 122) (by decide +kernel), List.mem_of_getElem? (i := 1058) (by decide +kernel), List.mem_of_getElem? (i := 1059) (by decide +kernel)⟩
theorem lw_p46 : lw_okq (⟨"TileOffice$Board", "forceRound", "()I"⟩, 11) := ⟨⟨by decide +kernel, by decide +kernel⟩, List.mem_of_getElem? (i := 59) (by decide +kernel), List.mem_of_getElem? (i := 1085) (by decide +kernel), List.mem_of_getElem? (i := 1086) (by decide +kernel)⟩
theorem lw_p47 : lw_okq (⟨"TileOffice$History", "latest", "()I"⟩, 5) := ⟨⟨by decide +kernel, by decide +kernel⟩, List.mem_of_getElem? (i := 193) (by decide +kernel), List.mem_of_getElem? (i := 1108) (by decide +kernel), List.mem_of_getElem? (i := 1109) (by decide +kernel)⟩
def lw_privs_3 : List (MethodName × Nat) := [(⟨"TileOffice$Board", "isWaiting", "(I)Z"⟩, 11), (⟨"TileOffice$Board", "fittingWord", "(II)J"⟩, 11), (⟨"TileOffice$Search", "leastCostOn", "(LTileOffice$Floor;)I"⟩, 13), (⟨"TileOffice$Search", "noteFill", "(LTileOffice$Floor;)V"⟩, 13), (⟨"TileOffice$Search", "explore", "(LTileOffice$Floor;I)V"⟩, 13), (⟨"TileOffice$Search", "openDepth", "(I)V"⟩, 13), (⟨"TileOffice$Search", "nextTry", "()I"⟩, 13), (⟨"TileOffice$Search", "isPassedOver", "(I)Z"⟩, 13), (⟨"TileOffice$Search", "costOf", "(I)I"⟩, 13), (⟨"TileOffice$Search", "openAgain", "(I)V"⟩, 13), (⟨"TileOffice$Board", "changeLeft", "(II)Z"⟩, 11), (⟨"TileOffice$Board", "flipLeftBits", "(I)V"⟩, 11), (⟨"TileOffice$Board", "tellAround", "(I)V"⟩, 11), (⟨"TileOffice$Search", "noteTry", "(I)V"⟩, 13), (⟨"TileOffice$Board", "forceRound", "()I"⟩, 11), (⟨"TileOffice$History", "latest", "()I"⟩, 5)]
theorem lw_r3 : ∀ q ∈ lw_privs_3, lw_okq q := List.forall_mem_cons.mpr ⟨lw_p32, List.forall_mem_cons.mpr ⟨lw_p33, List.forall_mem_cons.mpr ⟨lw_p34, List.forall_mem_cons.mpr ⟨lw_p35, List.forall_mem_cons.mpr ⟨lw_p36, List.forall_mem_cons.mpr ⟨lw_p37, List.forall_mem_cons.mpr ⟨lw_p38, List.forall_mem_cons.mpr ⟨lw_p39, List.forall_mem_cons.mpr ⟨lw_p40, List.forall_mem_cons.mpr ⟨lw_p41, List.forall_mem_cons.mpr ⟨lw_p42, List.forall_mem_cons.mpr ⟨lw_p43, List.forall_mem_cons.mpr ⟨lw_p44, List.forall_mem_cons.mpr ⟨lw_p45, List.forall_mem_cons.mpr ⟨lw_p46, List.forall_mem_cons.mpr ⟨lw_p47, fun _ h => absurd h List.not_mem_nil⟩⟩⟩⟩⟩⟩⟩⟩⟩⟩⟩⟩⟩⟩⟩⟩
theorem lw_p48 : lw_okq (⟨"TileOfficeModel", "isKind", "(I)Z"⟩, 55) := ⟨⟨by decide +kernel, by decide +kernel⟩, List.mem_of_getElem? (i := 1121) (by decide +kernel), List.mem_of_getElem? (i := 1324) (by decide +kernel), List.mem_of_getElem? (i := 1325) (by decide +kernel)⟩
theorem lw_p49 : lw_okq (⟨"TileOfficeModel", "lies", "(II)I"⟩, 55) := ⟨⟨by decide +kernel, by decide +kernel⟩, List.mem_of_getElem? (i := 1121) (by decide +kernel), List.mem_of_getElem? (i := 1328) (by decide +kernel), List.mem_of_getElem? (i := 1329) (by decide +kernel)⟩
theorem lw_p50 : lw_okq (⟨"TileOfficeModel", "colour", "(III)I"⟩, 55) := ⟨⟨by decide +kernel, by decide +kernel⟩, List.mem_of_getElem? (i := 1121) (by decide +kernel), List.mem_of_getElem? (i := 1332) (by decide +kernel), List.mem_of_getElem? (i := 1333) (by decide +kernel)⟩
theorem lw_p51 : lw_okq (⟨"TileOfficeModel", "isPattern", "(I)Z"⟩, 55) := ⟨⟨by decide +kernel, by decide +kernel⟩, List.mem_of_getElem? (i := 1121) (by decide +kernel), List.mem_of_getElem? (i := 1348) (by decide +kernel), List.mem_of_getElem? (i := 1349) (by decide +kernel)⟩
theorem lw_p52 : lw_okq (⟨"TileOfficeModel", "keep", "(I)V"⟩, 55) := ⟨⟨by decide +kernel, by decide +kernel⟩, List.mem_of_getElem? (i := 1121) (by decide +kernel), List.mem_of_getElem? (i := 1352) (by decide +kernel), List.mem_of_getElem? (i := 1353) (by decide +kernel)⟩
theorem lw_p53 : lw_okq (⟨"TileOfficeModel", "rowOf", "(II)I"⟩, 55) := ⟨⟨by decide +kernel, by decide +kernel⟩, List.mem_of_getElem? (i := 1121) (by decide +kernel), List.mem_of_getElem? (i := 1356) (by decide +kernel), List.mem_of_getElem? (i := 1357) (by decide +kernel)⟩
theorem lw_p54 : lw_okq (⟨"TileOfficeModel", "newRow", "(II)I"⟩, 55) := ⟨⟨by decide +kernel, by decide +kernel⟩, List.mem_of_getElem? (i := 1121) (by decide +kernel), List.mem_of_getElem? (i := 1360) (by decide +kernel), List.mem_of_getElem? (i := 1361) (by decide +kernel)⟩
theorem lw_p55 : lw_okq (⟨"TileOfficeModel", "takeRow", "(II)V"⟩, 55) := ⟨⟨by decide +kernel, by decide +kernel⟩, List.mem_of_getElem? (i := 1121) (by decide +kernel), List.mem_of_getElem? (i := 1368) (by decide +kernel), List.mem_of_getElem? (i := 1369) (by decide +kernel)⟩
theorem lw_p56 : lw_okq (⟨"TileOfficeModel", "has", "(IJJ)Z"⟩, 55) := ⟨⟨by decide +kernel, by decide +kernel⟩, List.mem_of_getElem? (i := 1121) (by decide +kernel), List.mem_of_getElem? (i := 1380) (by decide +kernel), List.mem_of_getElem? (i := 1381) (by decide +kernel)⟩
theorem lw_p57 : lw_okq (⟨"TileOfficeModel", "sets", "(IIII)Z"⟩, 55) := ⟨⟨by decide +kernel, by decide +kernel⟩, List.mem_of_getElem? (i := 1121) (by decide +kernel), List.mem_of_getElem? (i := 1387) (by decide +kernel), List.mem_of_getElem? (i := 1388) (by decide +kernel)⟩
theorem lw_p58 : lw_okq (⟨"TileOfficeModel", "own", "(II)V"⟩, 55) := ⟨⟨by decide +kernel, by decide +kernel⟩, List.mem_of_getElem? (i := 1121) (by decide +kernel), List.mem_of_getElem? (i := 1391) (by decide +kernel), List.mem_of_getElem? (i := 1392) (by decide +kernel)⟩
theorem lw_p59 : lw_okq (⟨"TileOfficeModel", "placeOf", "(III)I"⟩, 55) := ⟨⟨by decide +kernel, by decide +kernel⟩, List.mem_of_getElem? (i := 1121) (by decide +kernel), List.mem_of_getElem? (i := 1395) (by decide +kernel), List.mem_of_getElem? (i := 1396) (by decide +kernel)⟩
theorem lw_p60 : lw_okq (⟨"TileOfficeModel", "cellAt", "(III)I"⟩, 55) := ⟨⟨by decide +kernel, by decide +kernel⟩, List.mem_of_getElem? (i := 1121) (by decide +kernel), List.mem_of_getElem? (i := 1403) (by decide +kernel), List.mem_of_getElem? (i := 1404) (by decide +kernel)⟩
theorem lw_p61 : lw_okq (⟨"TileOfficeModel", "comesFrom", "(IIIII)V"⟩, 55) := ⟨⟨by decide +kernel, by decide +kernel⟩, List.mem_of_getElem? (i := 1121) (by decide +kernel), List.mem_of_getElem? (i := 1441) (by decide +kernel), List.mem_of_getElem? (i := 1442) (by decide +kernel)⟩
theorem lw_p62 : lw_okq (⟨"TileOfficeModel", "moved", "(II)I"⟩, 55) := ⟨⟨by decide +kernel, by decide +kernel⟩, List.mem_of_getElem? (i := 1121) (by decide +kernel), List.mem_of_getElem? (i := 1445) (by decide +kernel), List.mem_of_getElem? (i := 1446) (by decide +kernel)⟩
theorem lw_p63 : lw_okq (⟨"TileOfficeModel", "comes", "(IIII)I"⟩, 55) := ⟨⟨by decide +kernel, by decide +kernel⟩, List.mem_of_getElem? (i := 1121) (by decide +kernel), List.mem_of_getElem? (i := 1453) (by decide +kernel), List.mem_of_getElem? (i := 1454) (by decide +kernel)⟩
def lw_privs_4 : List (MethodName × Nat) := [(⟨"TileOfficeModel", "isKind", "(I)Z"⟩, 55), (⟨"TileOfficeModel", "lies", "(II)I"⟩, 55), (⟨"TileOfficeModel", "colour", "(III)I"⟩, 55), (⟨"TileOfficeModel", "isPattern", "(I)Z"⟩, 55), (⟨"TileOfficeModel", "keep", "(I)V"⟩, 55), (⟨"TileOfficeModel", "rowOf", "(II)I"⟩, 55), (⟨"TileOfficeModel", "newRow", "(II)I"⟩, 55), (⟨"TileOfficeModel", "takeRow", "(II)V"⟩, 55), (⟨"TileOfficeModel", "has", "(IJJ)Z"⟩, 55), (⟨"TileOfficeModel", "sets", "(IIII)Z"⟩, 55), (⟨"TileOfficeModel", "own", "(II)V"⟩, 55), (⟨"TileOfficeModel", "placeOf", "(III)I"⟩, 55), (⟨"TileOfficeModel", "cellAt", "(III)I"⟩, 55), (⟨"TileOfficeModel", "comesFrom", "(IIIII)V"⟩, 55), (⟨"TileOfficeModel", "moved", "(II)I"⟩, 55), (⟨"TileOfficeModel", "comes", "(IIII)I"⟩, 55)]
theorem lw_r4 : ∀ q ∈ lw_privs_4, lw_okq q := List.forall_mem_cons.mpr ⟨lw_p48, List.forall_mem_cons.mpr ⟨lw_p49, List.forall_mem_cons.mpr ⟨lw_p50, List.forall_mem_cons.mpr ⟨lw_p51, List.forall_mem_cons.mpr ⟨lw_p52, List.forall_mem_cons.mpr ⟨lw_p53, List.forall_mem_cons.mpr ⟨lw_p54, List.forall_mem_cons.mpr ⟨lw_p55, List.forall_mem_cons.mpr ⟨lw_p56, List.forall_mem_cons.mpr ⟨lw_p57, List.forall_mem_cons.mpr ⟨lw_p58, List.forall_mem_cons.mpr ⟨lw_p59, List.forall_mem_cons.mpr ⟨lw_p60, List.forall_mem_cons.mpr ⟨lw_p61, List.forall_mem_cons.mpr ⟨lw_p62, List.forall_mem_cons.mpr ⟨lw_p63, fun _ h => absurd h List.not_mem_nil⟩⟩⟩⟩⟩⟩⟩⟩⟩⟩⟩⟩⟩⟩⟩⟩
theorem lw_p64 : lw_okq (⟨"TileOfficeModel", "isRule", "(I)Z"⟩, 55) := ⟨⟨by decide +kernel, by decide +kernel⟩, List.mem_of_getElem? (i := 1121) (by decide +kernel), List.mem_of_getElem? (i := 1465) (by decide +kernel), List.mem_of_getElem? (i := 1466) (by decide +kernel)⟩
theorem lw_p65 : lw_okq (⟨"TileOfficeModel", "grown", "(III)Z"⟩, 55) := ⟨⟨by decide +kernel, by decide +kernel⟩, List.mem_of_getElem? (i := 1121) (by decide +kernel), List.mem_of_getElem? (i := 1473) (by decide +kernel), List.mem_of_getElem? (i := 1474) (by decide +kernel)⟩
theorem lw_p66 : lw_okq (⟨"TileOfficeModel", "block", "(IIII)I"⟩, 55) := ⟨⟨by decide +kernel, by decide +kernel⟩, List.mem_of_getElem? (i := 1121) (by decide +kernel), List.mem_of_getElem? (i := 1477) (by decide +kernel), List.mem_of_getElem? (i := 1478) (by decide +kernel)⟩
theorem lw_p67 : lw_okq (⟨"TileOfficeModel", "fit", "(III)Z"⟩, 55) := ⟨⟨by decide +kernel, by decide +kernel⟩, List.mem_of_getElem? (i := 1121) (by decide +kernel), List.mem_of_getElem? (i := 1499) (by decide +kernel), List.mem_of_getElem? (i := 1500) (by decide +kernel)⟩
theorem lw_p68 : lw_okq (⟨"TileOfficeModel", "comesAgain", "(III)Z"⟩, 55) := ⟨⟨by decide +kernel, by decide +kernel⟩, List.mem_of_getElem? (i := 1121) (by decide +kernel), List.mem_of_getElem? (i := 1507) (by decide +kernel), List.mem_of_getElem? (i := 1508) (by decide +kernel)⟩
theorem lw_p69 : lw_okq (⟨"TileOfficeModel", "isFull", "(I)Z"⟩, 55) := ⟨⟨by decide +kernel, by decide +kernel⟩, List.mem_of_getElem? (i := 1121) (by decide +kernel), List.mem_of_getElem? (i := 1515) (by decide +kernel), List.mem_of_getElem? (i := 1516) (by decide +kernel)⟩
theorem lw_p70 : lw_okq (⟨"TileOfficeModel", "isMoved", "(III)Z"⟩, 55) := ⟨⟨by decide +kernel, by decide +kernel⟩, List.mem_of_getElem? (i := 1121) (by decide +kernel), List.mem_of_getElem? (i := 1519) (by decide +kernel), List.mem_of_getElem? (i := 1520) (by decide +kernel)⟩
theorem lw_p71 : lw_okq (⟨"TileOfficeModel", "wide", "(I)I"⟩, 55) := ⟨⟨by decide +kernel, by decide +kernel⟩, List.mem_of_getElem? (i := 1121) (by decide +kernel), List.mem_of_getElem? (i := 1523) (by decide +kernel), List.mem_of_getElem? (i := 1524) (by decide +kernel)⟩
theorem lw_p72 : lw_okq (⟨"TileOfficeModel", "movedCell", "(IIII)I"⟩, 55) := ⟨⟨by decide +kernel, by decide +kernel⟩, List.mem_of_getElem? (i := 1121) (by decide +kernel), List.mem_of_getElem? (i := 1527) (by decide +kernel), List.mem_of_getElem? (i := 1528) (by decide +kernel)⟩
theorem lw_p73 : lw_okq (⟨"TileOfficeModel", "isFound", "(IIIII)Z"⟩, 55) := ⟨⟨by decide +kernel, by decide +kernel⟩, List.mem_of_getElem? (i := 1121) (by decide +kernel), List.mem_of_getElem? (i := 1539) (by decide +kernel), List.mem_of_getElem? (i := 1540) (by decide +kernel)⟩
theorem lw_p74 : lw_okq (⟨"TileOfficeModel", "isPlace", "(III)Z"⟩, 55) := ⟨⟨by decide +kernel, by decide +kernel⟩, List.mem_of_getElem? (i := 1121) (by decide +kernel), List.mem_of_getElem? (i := 1551) (by decide +kernel), List.mem_of_getElem? (i := 1552) (by decide +kernel)⟩
theorem lw_p75 : lw_okq (⟨"TileOfficeModel", "isFloor", "(I)Z"⟩, 55) := ⟨⟨by decide +kernel, by decide +kernel⟩, List.mem_of_getElem? (i := 1121) (by decide +kernel), List.mem_of_getElem? (i := 1555) (by decide +kernel), List.mem_of_getElem? (i := 1556) (by decide +kernel)⟩
theorem lw_p76 : lw_okq (⟨"TileOfficeModel", "starts", "(I)Z"⟩, 55) := ⟨⟨by decide +kernel, by decide +kernel⟩, List.mem_of_getElem? (i := 1121) (by decide +kernel), List.mem_of_getElem? (i := 1571) (by decide +kernel), List.mem_of_getElem? (i := 1572) (by decide +kernel)⟩
theorem lw_p77 : lw_okq (⟨"TileOfficeModel", "mayLie", "(II)Z"⟩, 55) := ⟨⟨by decide +kernel, by decide +kernel⟩, List.mem_of_getElem? (i := 1121) (by decide +kernel), List.mem_of_getElem? (i := 1575) (by decide +kernel), List.mem_of_getElem? (i := 1576) (by decide +kernel)⟩
theorem lw_p78 : lw_okq (⟨"TileOfficeModel", "lyingAt", "(II)I"⟩, 55) := ⟨⟨by decide +kernel, by decide +kernel⟩, List.mem_of_getElem? (i := 1121) (by decide +kernel), List.mem_of_getElem? (i := 1579) (by decide +kernel), List.mem_of_getElem? (i := 1580) (by decide +kernel)⟩
theorem lw_p79 : lw_okq (⟨"TileOfficeModel", "search", "(IZ)V"⟩, 55) := ⟨⟨by decide +kernel, by decide +kernel⟩, List.mem_of_getElem? (i := 1121) (by decide +kernel), List.mem_of_getElem? (i := 1583) (by decide +kernel), List.mem_of_getElem? (i := 1584) (by decide +kernel)⟩
def lw_privs_5 : List (MethodName × Nat) := [(⟨"TileOfficeModel", "isRule", "(I)Z"⟩, 55), (⟨"TileOfficeModel", "grown", "(III)Z"⟩, 55), (⟨"TileOfficeModel", "block", "(IIII)I"⟩, 55), (⟨"TileOfficeModel", "fit", "(III)Z"⟩, 55), (⟨"TileOfficeModel", "comesAgain", "(III)Z"⟩, 55), (⟨"TileOfficeModel", "isFull", "(I)Z"⟩, 55), (⟨"TileOfficeModel", "isMoved", "(III)Z"⟩, 55), (⟨"TileOfficeModel", "wide", "(I)I"⟩, 55), (⟨"TileOfficeModel", "movedCell", "(IIII)I"⟩, 55), (⟨"TileOfficeModel", "isFound", "(IIIII)Z"⟩, 55), (⟨"TileOfficeModel", "isPlace", "(III)Z"⟩, 55), (⟨"TileOfficeModel", "isFloor", "(I)Z"⟩, 55), (⟨"TileOfficeModel", "starts", "(I)Z"⟩, 55), (⟨"TileOfficeModel", "mayLie", "(II)Z"⟩, 55), (⟨"TileOfficeModel", "lyingAt", "(II)I"⟩, 55), (⟨"TileOfficeModel", "search", "(IZ)V"⟩, 55)]
theorem lw_r5 : ∀ q ∈ lw_privs_5, lw_okq q := List.forall_mem_cons.mpr ⟨lw_p64, List.forall_mem_cons.mpr ⟨lw_p65, List.forall_mem_cons.mpr ⟨lw_p66, List.forall_mem_cons.mpr ⟨lw_p67, List.forall_mem_cons.mpr ⟨lw_p68, List.forall_mem_cons.mpr ⟨lw_p69, List.forall_mem_cons.mpr ⟨lw_p70, List.forall_mem_cons.mpr ⟨lw_p71, List.forall_mem_cons.mpr ⟨lw_p72, List.forall_mem_cons.mpr ⟨lw_p73, List.forall_mem_cons.mpr ⟨lw_p74, List.forall_mem_cons.mpr ⟨lw_p75, List.forall_mem_cons.mpr ⟨lw_p76, List.forall_mem_cons.mpr ⟨lw_p77, List.forall_mem_cons.mpr ⟨lw_p78, List.forall_mem_cons.mpr ⟨lw_p79, fun _ h => absurd h List.not_mem_nil⟩⟩⟩⟩⟩⟩⟩⟩⟩⟩⟩⟩⟩⟩⟩⟩
theorem lw_p80 : lw_okq (⟨"TileOfficeModel", "leastCost", "()I"⟩, 55) := ⟨⟨by decide +kernel, by decide +kernel⟩, List.mem_of_getElem? (i := 1121) (by decide +kernel), List.mem_of_getElem? (i := 1587) (by decide +kernel), List.mem_of_getElem? (i := 1588) (by decide +kernel)⟩
theorem lw_p81 : lw_okq (⟨"TileOfficeModel", "nextPlace", "()I"⟩, 55) := ⟨⟨by decide +kernel, by decide +kernel⟩, List.mem_of_getElem? (i := 1121) (by decide +kernel), List.mem_of_getElem? (i := 1591) (by decide +kernel), List.mem_of_getElem? (i := 1592) (by decide +kernel)⟩
theorem lw_p82 : lw_okq (⟨"TileOfficeModel", "fitting", "(I)I"⟩, 55) := ⟨⟨by decide +kernel, by decide +kernel⟩, List.mem_of_getElem? (i := 1121) (by decide +kernel), List.mem_of_getElem? (i := 1595) (by decide +kernel), List.mem_of_getElem? (i := 1596) (by decide +kernel)⟩
theorem lw_p83 : lw_okq (⟨"TileOfficeModel", "nextFitting", "(II)I"⟩, 55) := ⟨⟨by decide +kernel, by decide +kernel⟩, List.mem_of_getElem? (i := 1121) (by decide +kernel), List.mem_of_getElem? (i := 1599) (by decide +kernel), List.mem_of_getElem? (i := 1600) (by decide +kernel)⟩
theorem lw_p84 : lw_okq (⟨"TileOfficeModel", "show", "()V"⟩, 55) := ⟨⟨by decide +kernel, by decide +kernel⟩, List.mem_of_getElem? (i := 1121) (by decide +kernel), List.mem_of_getElem? (i := 1603) (by decide +kernel), List.mem_of_getElem? (i := 1604) (by decide +kernel)⟩
theorem lw_p85 : lw_okq (⟨"TileOfficeModel", "takeBack", "(I)V"⟩, 55) := ⟨⟨by decide +kernel, by decide +kernel⟩, List.mem_of_getElem? (i := 1121) (by decide +kernel), List.mem_of_getElem? (i := 1607) (by decide +kernel), List.mem_of_getElem? (i := 1608) (by decide +kernel)⟩
theorem lw_p86 : lw_okq (⟨"TileOfficeModel", "lay", "(II)V"⟩, 55) := ⟨⟨by decide +kernel, by decide +kernel⟩, List.mem_of_getElem? (i := 1121) (by decide +kernel), List.mem_of_getElem? (i := 1612) (by decide +kernel), List.mem_of_getElem? (i := 1613) (by decide +kernel)⟩
def lw_privs_6 : List (MethodName × Nat) := [(⟨"TileOfficeModel", "leastCost", "()I"⟩, 55), (⟨"TileOfficeModel", "nextPlace", "()I"⟩, 55), (⟨"TileOfficeModel", "fitting", "(I)I"⟩, 55), (⟨"TileOfficeModel", "nextFitting", "(II)I"⟩, 55), (⟨"TileOfficeModel", "show", "()V"⟩, 55), (⟨"TileOfficeModel", "takeBack", "(I)V"⟩, 55), (⟨"TileOfficeModel", "lay", "(II)V"⟩, 55)]
theorem lw_r6 : ∀ q ∈ lw_privs_6, lw_okq q := List.forall_mem_cons.mpr ⟨lw_p80, List.forall_mem_cons.mpr ⟨lw_p81, List.forall_mem_cons.mpr ⟨lw_p82, List.forall_mem_cons.mpr ⟨lw_p83, List.forall_mem_cons.mpr ⟨lw_p84, List.forall_mem_cons.mpr ⟨lw_p85, List.forall_mem_cons.mpr ⟨lw_p86, fun _ h => absurd h List.not_mem_nil⟩⟩⟩⟩⟩⟩⟩
def lw_privs : List (MethodName × Nat) := lw_privs_1 ++ (lw_privs_2 ++ (lw_privs_3 ++ (lw_privs_4 ++ (lw_privs_5 ++ (lw_privs_6)))))
def lw_tbl : List Cond := k2_sels lw_privs ++ tables_1
theorem lw_privs_ok : ∀ q ∈ lw_privs, lw_okq q := by
  show ∀ q ∈ lw_privs_1 ++ (lw_privs_2 ++ (lw_privs_3 ++ (lw_privs_4 ++ (lw_privs_5 ++ (lw_privs_6))))), lw_okq q
  exact List.forall_mem_append.mpr ⟨lw_r1, List.forall_mem_append.mpr ⟨lw_r2, List.forall_mem_append.mpr ⟨lw_r3, List.forall_mem_append.mpr ⟨lw_r4, List.forall_mem_append.mpr ⟨lw_r5, lw_r6⟩⟩⟩⟩⟩
/-! ===== BEGIN printed: names, fields, word lists, decode rows ===== -/
def RX0 : String := "TileOffice$Block"
def TX0 : u_T := fun k => match k with
  | 0 => ("TileOffice$Block", "rows", "I", false)
  | 1 => ("TileOffice$Block", "columns", "I", false)
  | _ => ("TileOffice$Block", "cells", "[I", true)
def tyX0 : Nat → FieldType := fun k => match k with
  | 0 => .int
  | 1 => .int
  | _ => .array .int
abbrev wsX00 : List Cond := u_ws RX0 TX0 3
theorem nmX0 : ∀ a, a < 3 → ∀ b, b < 3 → a ≠ b → (TX0 a).2.1 ≠ (TX0 b).2.1 := by decide +kernel
theorem tyX0_ok : ∀ k, k < 3 → parseFieldDescriptor (TX0 k).2.2.1 = some (tyX0 k) := by decide +kernel
abbrev cX0_init : ByteArray := prog_2_method_1_code
def yX0_init : MethodName := ⟨RX0, "<init>", "(I)V"⟩
abbrev cX0_mayBeRegion : ByteArray := prog_2_method_2_code
def yX0_mayBeRegion : MethodName := ⟨RX0, "mayBeRegion", "(II)Z"⟩
abbrev cX0_isNothing : ByteArray := prog_2_method_3_code
def yX0_isNothing : MethodName := ⟨RX0, "isNothing", "()Z"⟩
abbrev cX0_hasPlace : ByteArray := prog_2_method_4_code
def yX0_hasPlace : MethodName := ⟨RX0, "hasPlace", "(II)Z"⟩
abbrev cX0_cellAt : ByteArray := prog_2_method_5_code
def yX0_cellAt : MethodName := ⟨RX0, "cellAt", "(II)I"⟩
abbrev cX0_setCell : ByteArray := prog_2_method_6_code
def yX0_setCell : MethodName := ⟨RX0, "setCell", "(III)V"⟩
abbrev cX0_filledCells : ByteArray := prog_2_method_7_code
def yX0_filledCells : MethodName := ⟨RX0, "filledCells", "()I"⟩
abbrev cX0_takePattern : ByteArray := prog_2_method_8_code
def yX0_takePattern : MethodName := ⟨RX0, "takePattern", "(LTileOffice$Pattern;IIII)V"⟩
abbrev cX0_takeWhole : ByteArray := prog_2_method_9_code
def yX0_takeWhole : MethodName := ⟨RX0, "takeWhole", "(LTileOffice$Pattern;)V"⟩
abbrev cX0_takeMoved : ByteArray := prog_2_method_10_code
def yX0_takeMoved : MethodName := ⟨RX0, "takeMoved", "(LTileOffice$Block;ILTileOffice$Kinds;)V"⟩
def RX1 : String := "TileOffice$Board"
def TX1 : u_T := fun k => match k with
  | 0 => ("TileOffice$Board", "choices", "LTileOffice$Choices;", true)
  | 1 => ("TileOffice$Board", "openPlaces", "I", false)
  | 2 => ("TileOffice$Board", "rows", "I", false)
  | 3 => ("TileOffice$Board", "columns", "I", false)
  | 4 => ("TileOffice$Board", "codes", "[I", true)
  | 5 => ("TileOffice$Board", "open", "[Z", true)
  | 6 => ("TileOffice$Board", "wanted", "[I", true)
  | 7 => ("TileOffice$Board", "fitting", "[I", true)
  | 8 => ("TileOffice$Board", "left", "[I", true)
  | 9 => ("TileOffice$Board", "leftBits", "[J", true)
  | _ => ("TileOffice$Board", "single", "[I", true)
def tyX1 : Nat → FieldType := fun k => match k with
  | 0 => .object "TileOffice$Choices"
  | 1 => .int
  | 2 => .int
  | 3 => .int
  | 4 => .array .int
  | 5 => .array .boolean
  | 6 => .array .int
  | 7 => .array .int
  | 8 => .array .int
  | 9 => .array .long
  | _ => .array .int
abbrev wsX10 : List Cond := u_ws RX1 TX1 11
theorem nmX1 : ∀ a, a < 11 → ∀ b, b < 11 → a ≠ b → (TX1 a).2.1 ≠ (TX1 b).2.1 := by decide +kernel
theorem tyX1_ok : ∀ k, k < 11 → parseFieldDescriptor (TX1 k).2.2.1 = some (tyX1 k) := by decide +kernel
abbrev cX1_init : ByteArray := prog_3_method_1_code
def yX1_init : MethodName := ⟨RX1, "<init>", "(LTileOffice$Choices;)V"⟩
abbrev cX1_begin : ByteArray := prog_3_method_2_code
def yX1_begin : MethodName := ⟨RX1, "begin", "(LTileOffice$Floor;)V"⟩
abbrev cX1_has : ByteArray := prog_3_method_3_code
def yX1_has : MethodName := ⟨RX1, "has", "(I)Z"⟩
abbrev cX1_beside : ByteArray := prog_3_method_4_code
def yX1_beside : MethodName := ⟨RX1, "beside", "(II)I"⟩
abbrev cX1_codeAt : ByteArray := prog_3_method_5_code
def yX1_codeAt : MethodName := ⟨RX1, "codeAt", "(I)I"⟩
abbrev cX1_lookAround : ByteArray := prog_3_method_6_code
def yX1_lookAround : MethodName := ⟨RX1, "lookAround", "(I)V"⟩
abbrev cX1_givenOnesFit : ByteArray := prog_3_method_7_code
def yX1_givenOnesFit : MethodName := ⟨RX1, "givenOnesFit", "()Z"⟩
abbrev cX1_isWaiting : ByteArray := prog_3_method_8_code
def yX1_isWaiting : MethodName := ⟨RX1, "isWaiting", "(I)Z"⟩
abbrev cX1_fittingWord : ByteArray := prog_3_method_9_code
def yX1_fittingWord : MethodName := ⟨RX1, "fittingWord", "(II)J"⟩
abbrev cX1_recount : ByteArray := prog_3_method_10_code
def yX1_recount : MethodName := ⟨RX1, "recount", "(I)V"⟩
abbrev cX1_recountAll : ByteArray := prog_3_method_11_code
def yX1_recountAll : MethodName := ⟨RX1, "recountAll", "()V"⟩
abbrev cX1_scarcestPlace : ByteArray := prog_3_method_12_code
def yX1_scarcestPlace : MethodName := ⟨RX1, "scarcestPlace", "()I"⟩
abbrev cX1_fittingAfter : ByteArray := prog_3_method_13_code
def yX1_fittingAfter : MethodName := ⟨RX1, "fittingAfter", "(II)I"⟩
abbrev cX1_lay : ByteArray := prog_3_method_14_code
def yX1_lay : MethodName := ⟨RX1, "lay", "(II)V"⟩
abbrev cX1_lift : ByteArray := prog_3_method_15_code
def yX1_lift : MethodName := ⟨RX1, "lift", "(II)V"⟩
abbrev cX1_tellAround : ByteArray := prog_3_method_16_code
def yX1_tellAround : MethodName := ⟨RX1, "tellAround", "(I)V"⟩
abbrev cX1_changeLeft : ByteArray := prog_3_method_17_code
def yX1_changeLeft : MethodName := ⟨RX1, "changeLeft", "(II)Z"⟩
abbrev cX1_flipLeftBits : ByteArray := prog_3_method_18_code
def yX1_flipLeftBits : MethodName := ⟨RX1, "flipLeftBits", "(I)V"⟩
abbrev cX1_forceRounds : ByteArray := prog_3_method_19_code
def yX1_forceRounds : MethodName := ⟨RX1, "forceRounds", "()I"⟩
abbrev cX1_forceRound : ByteArray := prog_3_method_20_code
def yX1_forceRound : MethodName := ⟨RX1, "forceRound", "()I"⟩
abbrev cX1_showOn : ByteArray := prog_3_method_21_code
def yX1_showOn : MethodName := ⟨RX1, "showOn", "(LTileOffice$Floor;)V"⟩
def RX2 : String := "TileOffice$Cell"
def TX2 : u_T := fun k => match k with
  | _ => ("", "", "", false)
def tyX2 : Nat → FieldType := fun k => match k with
  | _ => .int
abbrev wsX20 : List Cond := u_ws RX2 TX2 0
theorem nmX2 : ∀ a, a < 0 → ∀ b, b < 0 → a ≠ b → (TX2 a).2.1 ≠ (TX2 b).2.1 := by decide +kernel
theorem tyX2_ok : ∀ k, k < 0 → parseFieldDescriptor (TX2 k).2.2.1 = some (tyX2 k) := by decide +kernel
abbrev cX2_tile : ByteArray := prog_4_method_2_code
def yX2_tile : MethodName := ⟨RX2, "tile", "(III)I"⟩
abbrev cX2_kindOf : ByteArray := prog_4_method_3_code
def yX2_kindOf : MethodName := ⟨RX2, "kindOf", "(I)I"⟩
abbrev cX2_moveOf : ByteArray := prog_4_method_4_code
def yX2_moveOf : MethodName := ⟨RX2, "moveOf", "(I)I"⟩
abbrev cX2_shadeOf : ByteArray := prog_4_method_5_code
def yX2_shadeOf : MethodName := ⟨RX2, "shadeOf", "(I)I"⟩
abbrev cX2_shaded : ByteArray := prog_4_method_6_code
def yX2_shaded : MethodName := ⟨RX2, "shaded", "(II)I"⟩
def RX3 : String := "TileOffice$Choices"
def TX3 : u_T := fun k => match k with
  | 0 => ("TileOffice$Choices", "kinds", "LTileOffice$Kinds;", true)
  | 1 => ("TileOffice$Choices", "size", "I", false)
  | 2 => ("TileOffice$Choices", "codes", "[I", true)
  | _ => ("TileOffice$Choices", "bits", "[J", true)
def tyX3 : Nat → FieldType := fun k => match k with
  | 0 => .object "TileOffice$Kinds"
  | 1 => .int
  | 2 => .array .int
  | _ => .array .long
abbrev wsX30 : List Cond := u_ws RX3 TX3 4
theorem nmX3 : ∀ a, a < 4 → ∀ b, b < 4 → a ≠ b → (TX3 a).2.1 ≠ (TX3 b).2.1 := by decide +kernel
theorem tyX3_ok : ∀ k, k < 4 → parseFieldDescriptor (TX3 k).2.2.1 = some (tyX3 k) := by decide +kernel
abbrev cX3_init : ByteArray := prog_5_method_1_code
def yX3_init : MethodName := ⟨RX3, "<init>", "(LTileOffice$Kinds;)V"⟩
abbrev cX3_gather : ByteArray := prog_5_method_2_code
def yX3_gather : MethodName := ⟨RX3, "gather", "(LTileOffice$Floor;)V"⟩
abbrev cX3_enter : ByteArray := prog_5_method_3_code
def yX3_enter : MethodName := ⟨RX3, "enter", "(I)V"⟩
abbrev cX3_mark : ByteArray := prog_5_method_4_code
def yX3_mark : MethodName := ⟨RX3, "mark", "(II)V"⟩
abbrev cX3_codeOf : ByteArray := prog_5_method_5_code
def yX3_codeOf : MethodName := ⟨RX3, "codeOf", "(I)I"⟩
abbrev cX3_kindOf : ByteArray := prog_5_method_6_code
def yX3_kindOf : MethodName := ⟨RX3, "kindOf", "(I)I"⟩
abbrev cX3_colourOf : ByteArray := prog_5_method_7_code
def yX3_colourOf : MethodName := ⟨RX3, "colourOf", "(II)I"⟩
abbrev cX3_withColour : ByteArray := prog_5_method_8_code
def yX3_withColour : MethodName := ⟨RX3, "withColour", "(III)J"⟩
def RX4 : String := "TileOffice$Floor"
def TX4 : u_T := fun k => match k with
  | 0 => ("TileOffice$Floor", "rows", "I", true)
  | 1 => ("TileOffice$Floor", "columns", "I", true)
  | 2 => ("TileOffice$Floor", "places", "[I", true)
  | 3 => ("TileOffice$Floor", "laid", "[I", true)
  | _ => ("TileOffice$Floor", "stocks", "[I", true)
def tyX4 : Nat → FieldType := fun k => match k with
  | 0 => .int
  | 1 => .int
  | 2 => .array .int
  | 3 => .array .int
  | _ => .array .int
abbrev wsX40 : List Cond := u_ws RX4 TX4 5
theorem nmX4 : ∀ a, a < 5 → ∀ b, b < 5 → a ≠ b → (TX4 a).2.1 ≠ (TX4 b).2.1 := by decide +kernel
theorem tyX4_ok : ∀ k, k < 5 → parseFieldDescriptor (TX4 k).2.2.1 = some (tyX4 k) := by decide +kernel
abbrev cX4_init : ByteArray := prog_6_method_1_code
def yX4_init : MethodName := ⟨RX4, "<init>", "(II)V"⟩
abbrev cX4_mayBe : ByteArray := prog_6_method_2_code
def yX4_mayBe : MethodName := ⟨RX4, "mayBe", "(II)Z"⟩
abbrev cX4_hasPlace : ByteArray := prog_6_method_3_code
def yX4_hasPlace : MethodName := ⟨RX4, "hasPlace", "(II)Z"⟩
abbrev cX4_setPlace : ByteArray := prog_6_method_4_code
def yX4_setPlace : MethodName := ⟨RX4, "setPlace", "(III)V"⟩
abbrev cX4_placeAt : ByteArray := prog_6_method_5_code
def yX4_placeAt : MethodName := ⟨RX4, "placeAt", "(I)I"⟩
abbrev cX4_shownAt : ByteArray := prog_6_method_6_code
def yX4_shownAt : MethodName := ⟨RX4, "shownAt", "(II)I"⟩
abbrev cX4_setStock : ByteArray := prog_6_method_7_code
def yX4_setStock : MethodName := ⟨RX4, "setStock", "(II)V"⟩
abbrev cX4_stockOf : ByteArray := prog_6_method_8_code
def yX4_stockOf : MethodName := ⟨RX4, "stockOf", "(I)I"⟩
abbrev cX4_showNothing : ByteArray := prog_6_method_9_code
def yX4_showNothing : MethodName := ⟨RX4, "showNothing", "()V"⟩
abbrev cX4_showAt : ByteArray := prog_6_method_10_code
def yX4_showAt : MethodName := ⟨RX4, "showAt", "(II)V"⟩
def RX5 : String := "TileOffice$History"
def TX5 : u_T := fun k => match k with
  | 0 => ("TileOffice$History", "count", "I", false)
  | 1 => ("TileOffice$History", "next", "I", false)
  | 2 => ("TileOffice$History", "changed", "[I", true)
  | 3 => ("TileOffice$History", "sizes", "[I", true)
  | _ => ("TileOffice$History", "ids", "[I", true)
def tyX5 : Nat → FieldType := fun k => match k with
  | 0 => .int
  | 1 => .int
  | 2 => .array .int
  | 3 => .array .int
  | _ => .array .int
abbrev wsX50 : List Cond := u_ws RX5 TX5 5
theorem nmX5 : ∀ a, a < 5 → ∀ b, b < 5 → a ≠ b → (TX5 a).2.1 ≠ (TX5 b).2.1 := by decide +kernel
theorem tyX5_ok : ∀ k, k < 5 → parseFieldDescriptor (TX5 k).2.2.1 = some (tyX5 k) := by decide +kernel
abbrev cX5_init : ByteArray := prog_7_method_1_code
def yX5_init : MethodName := ⟨RX5, "<init>", "()V"⟩
abbrev cX5_remember : ByteArray := prog_7_method_2_code
def yX5_remember : MethodName := ⟨RX5, "remember", "(ILTileOffice$Pattern;)V"⟩
abbrev cX5_latest : ByteArray := prog_7_method_3_code
def yX5_latest : MethodName := ⟨RX5, "latest", "()I"⟩
abbrev cX5_latestPattern : ByteArray := prog_7_method_4_code
def yX5_latestPattern : MethodName := ⟨RX5, "latestPattern", "()I"⟩
abbrev cX5_giveBack : ByteArray := prog_7_method_5_code
def yX5_giveBack : MethodName := ⟨RX5, "giveBack", "(LTileOffice$Pattern;)V"⟩
def RX6 : String := "TileOffice$Kinds"
def TX6 : u_T := fun k => match k with
  | 0 => ("TileOffice$Kinds", "count", "I", false)
  | 1 => ("TileOffice$Kinds", "edges", "[I", true)
  | 2 => ("TileOffice$Kinds", "turnsOf", "[I", true)
  | 3 => ("TileOffice$Kinds", "mirrored", "[Z", true)
  | 4 => ("TileOffice$Kinds", "costs", "[I", true)
  | _ => ("TileOffice$Kinds", "letters", "[J", true)
def tyX6 : Nat → FieldType := fun k => match k with
  | 0 => .int
  | 1 => .array .int
  | 2 => .array .int
  | 3 => .array .boolean
  | 4 => .array .int
  | _ => .array .long
abbrev wsX60 : List Cond := u_ws RX6 TX6 6
theorem nmX6 : ∀ a, a < 6 → ∀ b, b < 6 → a ≠ b → (TX6 a).2.1 ≠ (TX6 b).2.1 := by decide +kernel
theorem tyX6_ok : ∀ k, k < 6 → parseFieldDescriptor (TX6 k).2.2.1 = some (tyX6 k) := by decide +kernel
abbrev cX6_init : ByteArray := prog_8_method_1_code
def yX6_init : MethodName := ⟨RX6, "<init>", "()V"⟩
abbrev cX6_lettersOf : ByteArray := prog_8_method_2_code
def yX6_lettersOf : MethodName := ⟨RX6, "lettersOf", "(J)J"⟩
abbrev cX6_mayBe : ByteArray := prog_8_method_3_code
def yX6_mayBe : MethodName := ⟨RX6, "mayBe", "(III)Z"⟩
abbrev cX6_chained : ByteArray := prog_8_method_4_code
def yX6_chained : MethodName := ⟨RX6, "chained", "(II)I"⟩
abbrev cX6_isFull : ByteArray := prog_8_method_5_code
def yX6_isFull : MethodName := ⟨RX6, "isFull", "()Z"⟩
abbrev cX6_has : ByteArray := prog_8_method_6_code
def yX6_has : MethodName := ⟨RX6, "has", "(I)Z"⟩
abbrev cX6_add : ByteArray := prog_8_method_7_code
def yX6_add : MethodName := ⟨RX6, "add", "(IIZIJ)I"⟩
abbrev cX6_withLetters : ByteArray := prog_8_method_8_code
def yX6_withLetters : MethodName := ⟨RX6, "withLetters", "(J)I"⟩
abbrev cX6_costOf : ByteArray := prog_8_method_9_code
def yX6_costOf : MethodName := ⟨RX6, "costOf", "(I)I"⟩
abbrev cX6_lies : ByteArray := prog_8_method_10_code
def yX6_lies : MethodName := ⟨RX6, "lies", "(II)I"⟩
abbrev cX6_colour : ByteArray := prog_8_method_11_code
def yX6_colour : MethodName := ⟨RX6, "colour", "(III)I"⟩
abbrev cX6_cellOf : ByteArray := prog_8_method_12_code
def yX6_cellOf : MethodName := ⟨RX6, "cellOf", "(II)I"⟩
abbrev cX6_movedCell : ByteArray := prog_8_method_13_code
def yX6_movedCell : MethodName := ⟨RX6, "movedCell", "(II)I"⟩
abbrev cX6_meet : ByteArray := prog_8_method_14_code
def yX6_meet : MethodName := ⟨RX6, "meet", "(III)Z"⟩
def RX7 : String := "TileOffice$Pattern"
def TX7 : u_T := fun k => match k with
  | 0 => ("TileOffice$Pattern", "store", "LTileOffice$RowStore;", true)
  | 1 => ("TileOffice$Pattern", "ids", "[I", true)
  | _ => ("TileOffice$Pattern", "size", "I", false)
def tyX7 : Nat → FieldType := fun k => match k with
  | 0 => .object "TileOffice$RowStore"
  | 1 => .array .int
  | _ => .int
abbrev wsX70 : List Cond := u_ws RX7 TX7 3
theorem nmX7 : ∀ a, a < 3 → ∀ b, b < 3 → a ≠ b → (TX7 a).2.1 ≠ (TX7 b).2.1 := by decide +kernel
theorem tyX7_ok : ∀ k, k < 3 → parseFieldDescriptor (TX7 k).2.2.1 = some (tyX7 k) := by decide +kernel
abbrev cX7_init : ByteArray := prog_9_method_1_code
def yX7_init : MethodName := ⟨RX7, "<init>", "(LTileOffice$RowStore;)V"⟩
abbrev cX7_hasRow : ByteArray := prog_9_method_2_code
def yX7_hasRow : MethodName := ⟨RX7, "hasRow", "(J)Z"⟩
abbrev cX7_idAt : ByteArray := prog_9_method_3_code
def yX7_idAt : MethodName := ⟨RX7, "idAt", "(J)I"⟩
abbrev cX7_lengthAt : ByteArray := prog_9_method_4_code
def yX7_lengthAt : MethodName := ⟨RX7, "lengthAt", "(I)I"⟩
abbrev cX7_offsetAt : ByteArray := prog_9_method_5_code
def yX7_offsetAt : MethodName := ⟨RX7, "offsetAt", "(I)I"⟩
abbrev cX7_cellAt : ByteArray := prog_9_method_6_code
def yX7_cellAt : MethodName := ⟨RX7, "cellAt", "(JJ)I"⟩
abbrev cX7_insertId : ByteArray := prog_9_method_7_code
def yX7_insertId : MethodName := ⟨RX7, "insertId", "(II)V"⟩
abbrev cX7_removeId : ByteArray := prog_9_method_8_code
def yX7_removeId : MethodName := ⟨RX7, "removeId", "(I)V"⟩
abbrev cX7_renewRow : ByteArray := prog_9_method_9_code
def yX7_renewRow : MethodName := ⟨RX7, "renewRow", "(I)I"⟩
abbrev cX7_takeRows : ByteArray := prog_9_method_10_code
def yX7_takeRows : MethodName := ⟨RX7, "takeRows", "([III)V"⟩
abbrev cX7_placesOf : ByteArray := prog_9_method_11_code
def yX7_placesOf : MethodName := ⟨RX7, "placesOf", "(I)I"⟩
abbrev cX7_isFull : ByteArray := prog_9_method_12_code
def yX7_isFull : MethodName := ⟨RX7, "isFull", "()Z"⟩
abbrev cX7_mayGrow : ByteArray := prog_9_method_13_code
def yX7_mayGrow : MethodName := ⟨RX7, "mayGrow", "(II)Z"⟩
abbrev cX7_isBlock : ByteArray := prog_9_method_14_code
def yX7_isBlock : MethodName := ⟨RX7, "isBlock", "(LTileOffice$Block;)Z"⟩
abbrev cX7_bears : ByteArray := prog_9_method_15_code
def yX7_bears : MethodName := ⟨RX7, "bears", "(LTileOffice$Block;II)Z"⟩
def RX8 : String := "TileOffice$RowStore"
def TX8 : u_T := fun k => match k with
  | 0 => ("TileOffice$RowStore", "made", "I", false)
  | 1 => ("TileOffice$RowStore", "offsets", "[I", true)
  | _ => ("TileOffice$RowStore", "cells", "[[I", true)
def tyX8 : Nat → FieldType := fun k => match k with
  | 0 => .int
  | 1 => .array .int
  | _ => .array (.array .int)
abbrev wsX80 : List Cond := u_ws RX8 TX8 3
theorem nmX8 : ∀ a, a < 3 → ∀ b, b < 3 → a ≠ b → (TX8 a).2.1 ≠ (TX8 b).2.1 := by decide +kernel
theorem tyX8_ok : ∀ k, k < 3 → parseFieldDescriptor (TX8 k).2.2.1 = some (tyX8 k) := by decide +kernel
abbrev cX8_init : ByteArray := prog_10_method_1_code
def yX8_init : MethodName := ⟨RX8, "<init>", "()V"⟩
abbrev cX8_mayBe : ByteArray := prog_10_method_2_code
def yX8_mayBe : MethodName := ⟨RX8, "mayBe", "(II)Z"⟩
abbrev cX8_left : ByteArray := prog_10_method_3_code
def yX8_left : MethodName := ⟨RX8, "left", "()I"⟩
abbrev cX8_make : ByteArray := prog_10_method_4_code
def yX8_make : MethodName := ⟨RX8, "make", "(II)I"⟩
abbrev cX8_makeLike : ByteArray := prog_10_method_5_code
def yX8_makeLike : MethodName := ⟨RX8, "makeLike", "(I)I"⟩
abbrev cX8_enter : ByteArray := prog_10_method_6_code
def yX8_enter : MethodName := ⟨RX8, "enter", "([II)I"⟩
abbrev cX8_cellsOf : ByteArray := prog_10_method_7_code
def yX8_cellsOf : MethodName := ⟨RX8, "cellsOf", "(I)[I"⟩
abbrev cX8_offsetOf : ByteArray := prog_10_method_8_code
def yX8_offsetOf : MethodName := ⟨RX8, "offsetOf", "(I)I"⟩
abbrev cX8_lengthOf : ByteArray := prog_10_method_9_code
def yX8_lengthOf : MethodName := ⟨RX8, "lengthOf", "(I)I"⟩
abbrev cX8_cellAt : ByteArray := prog_10_method_10_code
def yX8_cellAt : MethodName := ⟨RX8, "cellAt", "(IJ)I"⟩
abbrev cX8_setCell : ByteArray := prog_10_method_11_code
def yX8_setCell : MethodName := ⟨RX8, "setCell", "(III)V"⟩
abbrev cX8_bears : ByteArray := prog_10_method_12_code
def yX8_bears : MethodName := ⟨RX8, "bears", "(IILTileOffice$Block;I)Z"⟩
def RX9 : String := "TileOffice$Rule"
def TX9 : u_T := fun k => match k with
  | 0 => ("TileOffice$Rule", "rows", "I", true)
  | 1 => ("TileOffice$Rule", "columns", "I", true)
  | 2 => ("TileOffice$Rule", "cells", "[I", true)
  | 3 => ("TileOffice$Rule", "even", "[J", true)
  | _ => ("TileOffice$Rule", "odd", "[J", true)
def tyX9 : Nat → FieldType := fun k => match k with
  | 0 => .int
  | 1 => .int
  | 2 => .array .int
  | 3 => .array .long
  | _ => .array .long
abbrev wsX90 : List Cond := u_ws RX9 TX9 5
theorem nmX9 : ∀ a, a < 5 → ∀ b, b < 5 → a ≠ b → (TX9 a).2.1 ≠ (TX9 b).2.1 := by decide +kernel
theorem tyX9_ok : ∀ k, k < 5 → parseFieldDescriptor (TX9 k).2.2.1 = some (tyX9 k) := by decide +kernel
abbrev cX9_init : ByteArray := prog_11_method_1_code
def yX9_init : MethodName := ⟨RX9, "<init>", "(II)V"⟩
abbrev cX9_mayBe : ByteArray := prog_11_method_2_code
def yX9_mayBe : MethodName := ⟨RX9, "mayBe", "(II)Z"⟩
abbrev cX9_hasPlace : ByteArray := prog_11_method_3_code
def yX9_hasPlace : MethodName := ⟨RX9, "hasPlace", "(II)Z"⟩
abbrev cX9_hasCell : ByteArray := prog_11_method_4_code
def yX9_hasCell : MethodName := ⟨RX9, "hasCell", "(III)Z"⟩
abbrev cX9_setCell : ByteArray := prog_11_method_5_code
def yX9_setCell : MethodName := ⟨RX9, "setCell", "(IIII)V"⟩
abbrev cX9_cellAt : ByteArray := prog_11_method_6_code
def yX9_cellAt : MethodName := ⟨RX9, "cellAt", "(III)I"⟩
abbrev cX9_childOf : ByteArray := prog_11_method_7_code
def yX9_childOf : MethodName := ⟨RX9, "childOf", "(IIILTileOffice$Kinds;)I"⟩
abbrev cX9_rowBefore : ByteArray := prog_11_method_8_code
def yX9_rowBefore : MethodName := ⟨RX9, "rowBefore", "(III)I"⟩
abbrev cX9_columnBefore : ByteArray := prog_11_method_9_code
def yX9_columnBefore : MethodName := ⟨RX9, "columnBefore", "(III)I"⟩
abbrev cX9_foretell : ByteArray := prog_11_method_10_code
def yX9_foretell : MethodName := ⟨RX9, "foretell", "(III)J"⟩
abbrev cX9_foretellStep : ByteArray := prog_11_method_11_code
def yX9_foretellStep : MethodName := ⟨RX9, "foretellStep", "([J[J)V"⟩
abbrev cX9_sum : ByteArray := prog_11_method_12_code
def yX9_sum : MethodName := ⟨RX9, "sum", "(JJ)J"⟩
def RX10 : String := "TileOffice$Search"
def TX10 : u_T := fun k => match k with
  | 0 => ("TileOffice$Search", "board", "LTileOffice$Board;", true)
  | 1 => ("TileOffice$Search", "kinds", "LTileOffice$Kinds;", true)
  | 2 => ("TileOffice$Search", "placeAt", "[I", true)
  | 3 => ("TileOffice$Search", "choiceAt", "[I", true)
  | 4 => ("TileOffice$Search", "depth", "I", false)
  | 5 => ("TileOffice$Search", "stepsLeft", "I", false)
  | 6 => ("TileOffice$Search", "leastCost", "Z", false)
  | 7 => ("TileOffice$Search", "cost", "I", false)
  | 8 => ("TileOffice$Search", "leastOfKinds", "I", false)
  | 9 => ("TileOffice$Search", "stepsOfLife", "I", false)
  | 10 => ("TileOffice$Search", "found", "I", false)
  | 11 => ("TileOffice$Search", "best", "I", false)
  | _ => ("TileOffice$Search", "known", "Z", false)
def tyX10 : Nat → FieldType := fun k => match k with
  | 0 => .object "TileOffice$Board"
  | 1 => .object "TileOffice$Kinds"
  | 2 => .array .int
  | 3 => .array .int
  | 4 => .int
  | 5 => .int
  | 6 => .boolean
  | 7 => .int
  | 8 => .int
  | 9 => .int
  | 10 => .int
  | 11 => .int
  | _ => .boolean
abbrev wsX100 : List Cond := u_ws RX10 TX10 13
theorem nmX10 : ∀ a, a < 13 → ∀ b, b < 13 → a ≠ b → (TX10 a).2.1 ≠ (TX10 b).2.1 := by decide +kernel
theorem tyX10_ok : ∀ k, k < 13 → parseFieldDescriptor (TX10 k).2.2.1 = some (tyX10 k) := by decide +kernel
abbrev cX10_init : ByteArray := prog_12_method_1_code
def yX10_init : MethodName := ⟨RX10, "<init>", "(LTileOffice$Board;LTileOffice$Kinds;)V"⟩
abbrev cX10_run : ByteArray := prog_12_method_2_code
def yX10_run : MethodName := ⟨RX10, "run", "(LTileOffice$Floor;IZ)V"⟩
abbrev cX10_leastCostOn : ByteArray := prog_12_method_3_code
def yX10_leastCostOn : MethodName := ⟨RX10, "leastCostOn", "(LTileOffice$Floor;)I"⟩
abbrev cX10_explore : ByteArray := prog_12_method_4_code
def yX10_explore : MethodName := ⟨RX10, "explore", "(LTileOffice$Floor;I)V"⟩
abbrev cX10_openDepth : ByteArray := prog_12_method_5_code
def yX10_openDepth : MethodName := ⟨RX10, "openDepth", "(I)V"⟩
abbrev cX10_openAgain : ByteArray := prog_12_method_6_code
def yX10_openAgain : MethodName := ⟨RX10, "openAgain", "(I)V"⟩
abbrev cX10_nextTry : ByteArray := prog_12_method_7_code
def yX10_nextTry : MethodName := ⟨RX10, "nextTry", "()I"⟩
abbrev cX10_isPassedOver : ByteArray := prog_12_method_8_code
def yX10_isPassedOver : MethodName := ⟨RX10, "isPassedOver", "(I)Z"⟩
abbrev cX10_noteTry : ByteArray := prog_12_method_9_code
def yX10_noteTry : MethodName := ⟨RX10, "noteTry", "(I)V"⟩
abbrev cX10_costOf : ByteArray := prog_12_method_10_code
def yX10_costOf : MethodName := ⟨RX10, "costOf", "(I)I"⟩
abbrev cX10_noteFill : ByteArray := prog_12_method_11_code
def yX10_noteFill : MethodName := ⟨RX10, "noteFill", "(LTileOffice$Floor;)V"⟩
def RX11 : String := "TileOffice"
def TX11 : u_T := fun k => match k with
  | 0 => ("TileOffice", "kinds", "LTileOffice$Kinds;", true)
  | 1 => ("TileOffice", "store", "LTileOffice$RowStore;", true)
  | 2 => ("TileOffice", "patterns", "[LTileOffice$Pattern;", true)
  | 3 => ("TileOffice", "patternCount", "I", false)
  | 4 => ("TileOffice", "history", "LTileOffice$History;", true)
  | 5 => ("TileOffice", "region", "LTileOffice$Block;", true)
  | 6 => ("TileOffice", "original", "LTileOffice$Block;", true)
  | 7 => ("TileOffice", "moved", "LTileOffice$Block;", true)
  | 8 => ("TileOffice", "foundMoves", "[I", true)
  | 9 => ("TileOffice", "rules", "[LTileOffice$Rule;", true)
  | 10 => ("TileOffice", "ruleCount", "I", false)
  | 11 => ("TileOffice", "floors", "[LTileOffice$Floor;", true)
  | 12 => ("TileOffice", "floorCount", "I", false)
  | 13 => ("TileOffice", "board", "LTileOffice$Board;", true)
  | _ => ("TileOffice", "search", "LTileOffice$Search;", true)
def tyX11 : Nat → FieldType := fun k => match k with
  | 0 => .object "TileOffice$Kinds"
  | 1 => .object "TileOffice$RowStore"
  | 2 => .array (.object "TileOffice$Pattern")
  | 3 => .int
  | 4 => .object "TileOffice$History"
  | 5 => .object "TileOffice$Block"
  | 6 => .object "TileOffice$Block"
  | 7 => .object "TileOffice$Block"
  | 8 => .array .int
  | 9 => .array (.object "TileOffice$Rule")
  | 10 => .int
  | 11 => .array (.object "TileOffice$Floor")
  | 12 => .int
  | 13 => .object "TileOffice$Board"
  | _ => .object "TileOffice$Search"
abbrev wsX110 : List Cond := u_ws RX11 TX11 15
theorem nmX11 : ∀ a, a < 15 → ∀ b, b < 15 → a ≠ b → (TX11 a).2.1 ≠ (TX11 b).2.1 := by decide +kernel
theorem tyX11_ok : ∀ k, k < 15 → parseFieldDescriptor (TX11 k).2.2.1 = some (tyX11 k) := by decide +kernel
abbrev cX11_init : ByteArray := prog_1_method_1_code
def yX11_init : MethodName := ⟨RX11, "<init>", "()V"⟩
abbrev cX11_kind : ByteArray := prog_1_method_2_code
def yX11_kind : MethodName := ⟨RX11, "kind", "(IIZIJ)I"⟩
abbrev cX11_named : ByteArray := prog_1_method_3_code
def yX11_named : MethodName := ⟨RX11, "named", "(J)I"⟩
abbrev cX11_edge : ByteArray := prog_1_method_4_code
def yX11_edge : MethodName := ⟨RX11, "edge", "(III)I"⟩
abbrev cX11_then : ByteArray := prog_1_method_5_code
def yX11_then : MethodName := ⟨RX11, "then", "(II)I"⟩
abbrev cX11_isMove : ByteArray := prog_1_method_6_code
def yX11_isMove : MethodName := ⟨RX11, "isMove", "(I)Z"⟩
abbrev cX11_isKindInMove : ByteArray := prog_1_method_7_code
def yX11_isKindInMove : MethodName := ⟨RX11, "isKindInMove", "(II)Z"⟩
abbrev cX11_pattern : ByteArray := prog_1_method_8_code
def yX11_pattern : MethodName := ⟨RX11, "pattern", "()I"⟩
abbrev cX11_keep : ByteArray := prog_1_method_9_code
def yX11_keep : MethodName := ⟨RX11, "keep", "(LTileOffice$Pattern;)I"⟩
abbrev cX11_patternOf : ByteArray := prog_1_method_10_code
def yX11_patternOf : MethodName := ⟨RX11, "patternOf", "(I)LTileOffice$Pattern;"⟩
abbrev cX11_insert : ByteArray := prog_1_method_11_code
def yX11_insert : MethodName := ⟨RX11, "insert", "(IIII)Z"⟩
abbrev cX11_remove : ByteArray := prog_1_method_12_code
def yX11_remove : MethodName := ⟨RX11, "remove", "(II)Z"⟩
abbrev cX11_move : ByteArray := prog_1_method_13_code
def yX11_move : MethodName := ⟨RX11, "move", "(III)Z"⟩
abbrev cX11_put : ByteArray := prog_1_method_14_code
def yX11_put : MethodName := ⟨RX11, "put", "(IIIII)Z"⟩
abbrev cX11_shade : ByteArray := prog_1_method_15_code
def yX11_shade : MethodName := ⟨RX11, "shade", "(IIII)Z"⟩
abbrev cX11_setCell : ByteArray := prog_1_method_16_code
def yX11_setCell : MethodName := ⟨RX11, "setCell", "(IIII)Z"⟩
abbrev cX11_at : ByteArray := prog_1_method_17_code
def yX11_at : MethodName := ⟨RX11, "at", "(IIII)I"⟩
abbrev cX11_row : ByteArray := prog_1_method_18_code
def yX11_row : MethodName := ⟨RX11, "row", "(III)I"⟩
abbrev cX11_placesOf : ByteArray := prog_1_method_19_code
def yX11_placesOf : MethodName := ⟨RX11, "placesOf", "(I)I"⟩
abbrev cX11_shares : ByteArray := prog_1_method_20_code
def yX11_shares : MethodName := ⟨RX11, "shares", "(IIII)Z"⟩
abbrev cX11_copy : ByteArray := prog_1_method_21_code
def yX11_copy : MethodName := ⟨RX11, "copy", "(I)I"⟩
abbrev cX11_region : ByteArray := prog_1_method_22_code
def yX11_region : MethodName := ⟨RX11, "region", "(IIIII)I"⟩
abbrev cX11_turn : ByteArray := prog_1_method_23_code
def yX11_turn : MethodName := ⟨RX11, "turn", "(I)Z"⟩
abbrev cX11_paste : ByteArray := prog_1_method_24_code
def yX11_paste : MethodName := ⟨RX11, "paste", "(III)I"⟩
abbrev cX11_cellsThatCome : ByteArray := prog_1_method_25_code
def yX11_cellsThatCome : MethodName := ⟨RX11, "cellsThatCome", "(LTileOffice$Pattern;III)I"⟩
abbrev cX11_comes : ByteArray := prog_1_method_26_code
def yX11_comes : MethodName := ⟨RX11, "comes", "(LTileOffice$Pattern;IIII)Z"⟩
abbrev cX11_pasteRows : ByteArray := prog_1_method_27_code
def yX11_pasteRows : MethodName := ⟨RX11, "pasteRows", "(LTileOffice$Pattern;II)V"⟩
abbrev cX11_rule : ByteArray := prog_1_method_28_code
def yX11_rule : MethodName := ⟨RX11, "rule", "(II)I"⟩
abbrev cX11_ruleOf : ByteArray := prog_1_method_29_code
def yX11_ruleOf : MethodName := ⟨RX11, "ruleOf", "(I)LTileOffice$Rule;"⟩
abbrev cX11_becomes : ByteArray := prog_1_method_30_code
def yX11_becomes : MethodName := ⟨RX11, "becomes", "(IIIIII)Z"⟩
abbrev cX11_grow : ByteArray := prog_1_method_31_code
def yX11_grow : MethodName := ⟨RX11, "grow", "(III)I"⟩
abbrev cX11_power : ByteArray := prog_1_method_32_code
def yX11_power : MethodName := ⟨RX11, "power", "(II)I"⟩
abbrev cX11_growsStraight : ByteArray := prog_1_method_33_code
def yX11_growsStraight : MethodName := ⟨RX11, "growsStraight", "(LTileOffice$Pattern;LTileOffice$Rule;I)Z"⟩
abbrev cX11_grownRow : ByteArray := prog_1_method_34_code
def yX11_grownRow : MethodName := ⟨RX11, "grownRow", "(LTileOffice$Pattern;LTileOffice$Rule;II)I"⟩
abbrev cX11_grownCell : ByteArray := prog_1_method_35_code
def yX11_grownCell : MethodName := ⟨RX11, "grownCell", "(LTileOffice$Pattern;LTileOffice$Rule;III)I"⟩
abbrev cX11_foretold : ByteArray := prog_1_method_36_code
def yX11_foretold : MethodName := ⟨RX11, "foretold", "(IIII)J"⟩
abbrev cX11_count : ByteArray := prog_1_method_37_code
def yX11_count : MethodName := ⟨RX11, "count", "(II)I"⟩
abbrev cX11_fits : ByteArray := prog_1_method_38_code
def yX11_fits : MethodName := ⟨RX11, "fits", "(I)I"⟩
abbrev cX11_period : ByteArray := prog_1_method_39_code
def yX11_period : MethodName := ⟨RX11, "period", "(II)I"⟩
abbrev cX11_repeats : ByteArray := prog_1_method_40_code
def yX11_repeats : MethodName := ⟨RX11, "repeats", "(LTileOffice$Pattern;II)Z"⟩
abbrev cX11_kept : ByteArray := prog_1_method_41_code
def yX11_kept : MethodName := ⟨RX11, "kept", "(I)I"⟩
abbrev cX11_congruent : ByteArray := prog_1_method_42_code
def yX11_congruent : MethodName := ⟨RX11, "congruent", "(II)I"⟩
abbrev cX11_find : ByteArray := prog_1_method_43_code
def yX11_find : MethodName := ⟨RX11, "find", "(III)I"⟩
abbrev cX11_markFound : ByteArray := prog_1_method_44_code
def yX11_markFound : MethodName := ⟨RX11, "markFound", "(LTileOffice$Pattern;I)V"⟩
abbrev cX11_foundAt : ByteArray := prog_1_method_45_code
def yX11_foundAt : MethodName := ⟨RX11, "foundAt", "(I)I"⟩
abbrev cX11_bitAt : ByteArray := prog_1_method_46_code
def yX11_bitAt : MethodName := ⟨RX11, "bitAt", "(II)I"⟩
abbrev cX11_floor : ByteArray := prog_1_method_47_code
def yX11_floor : MethodName := ⟨RX11, "floor", "(II)I"⟩
abbrev cX11_floorOf : ByteArray := prog_1_method_48_code
def yX11_floorOf : MethodName := ⟨RX11, "floorOf", "(I)LTileOffice$Floor;"⟩
abbrev cX11_place : ByteArray := prog_1_method_49_code
def yX11_place : MethodName := ⟨RX11, "place", "(IIIII)Z"⟩
abbrev cX11_stock : ByteArray := prog_1_method_50_code
def yX11_stock : MethodName := ⟨RX11, "stock", "(III)Z"⟩
abbrev cX11_fill : ByteArray := prog_1_method_51_code
def yX11_fill : MethodName := ⟨RX11, "fill", "(I)I"⟩
abbrev cX11_fills : ByteArray := prog_1_method_52_code
def yX11_fills : MethodName := ⟨RX11, "fills", "(II)I"⟩
abbrev cX11_cheapest : ByteArray := prog_1_method_53_code
def yX11_cheapest : MethodName := ⟨RX11, "cheapest", "(I)I"⟩
abbrev cX11_forced : ByteArray := prog_1_method_54_code
def yX11_forced : MethodName := ⟨RX11, "forced", "(I)I"⟩
abbrev cX11_shown : ByteArray := prog_1_method_55_code
def yX11_shown : MethodName := ⟨RX11, "shown", "(III)I"⟩
abbrev cX11_undo : ByteArray := prog_1_method_56_code
def yX11_undo : MethodName := ⟨RX11, "undo", "()I"⟩
abbrev cX11_about : ByteArray := prog_1_method_57_code
def yX11_about : MethodName := ⟨RX11, "about", "(I)I"⟩
def RX12 : String := "TileOfficeModel"
def TX12 : u_T := fun k => match k with
  | 0 => ("TileOfficeModel", "kEdges", "[I", true)
  | 1 => ("TileOfficeModel", "kTurns", "[I", true)
  | 2 => ("TileOfficeModel", "kCost", "[I", true)
  | 3 => ("TileOfficeModel", "kMirrors", "[Z", true)
  | 4 => ("TileOfficeModel", "kName", "[J", true)
  | 5 => ("TileOfficeModel", "kinds", "I", false)
  | 6 => ("TileOfficeModel", "rLength", "[I", true)
  | 7 => ("TileOfficeModel", "rOffset", "[I", true)
  | 8 => ("TileOfficeModel", "rCells", "[I", true)
  | 9 => ("TileOfficeModel", "made", "I", false)
  | 10 => ("TileOfficeModel", "pRows", "[I", true)
  | 11 => ("TileOfficeModel", "pMany", "[I", true)
  | 12 => ("TileOfficeModel", "patterns", "I", false)
  | 13 => ("TileOfficeModel", "uPattern", "[I", true)
  | 14 => ("TileOfficeModel", "uMany", "[I", true)
  | 15 => ("TileOfficeModel", "uRows", "[I", true)
  | 16 => ("TileOfficeModel", "undos", "I", false)
  | 17 => ("TileOfficeModel", "undoAt", "I", false)
  | 18 => ("TileOfficeModel", "fromI", "I", false)
  | 19 => ("TileOfficeModel", "fromJ", "I", false)
  | 20 => ("TileOfficeModel", "gCells", "[I", true)
  | 21 => ("TileOfficeModel", "gOther", "[I", true)
  | 22 => ("TileOfficeModel", "gIs", "[Z", true)
  | 23 => ("TileOfficeModel", "gOtherIs", "[Z", true)
  | 24 => ("TileOfficeModel", "gRows", "I", false)
  | 25 => ("TileOfficeModel", "gCols", "I", false)
  | 26 => ("TileOfficeModel", "uSizeR", "[I", true)
  | 27 => ("TileOfficeModel", "uSizeC", "[I", true)
  | 28 => ("TileOfficeModel", "uBlock", "[I", true)
  | 29 => ("TileOfficeModel", "rules", "I", false)
  | 30 => ("TileOfficeModel", "wCells", "[I", true)
  | 31 => ("TileOfficeModel", "wLength", "[I", true)
  | 32 => ("TileOfficeModel", "wOffset", "[I", true)
  | 33 => ("TileOfficeModel", "now", "[J", true)
  | 34 => ("TileOfficeModel", "then", "[J", true)
  | 35 => ("TileOfficeModel", "fRows", "[I", true)
  | 36 => ("TileOfficeModel", "fCols", "[I", true)
  | 37 => ("TileOfficeModel", "fTold", "[I", true)
  | 38 => ("TileOfficeModel", "fLies", "[I", true)
  | 39 => ("TileOfficeModel", "fStock", "[I", true)
  | 40 => ("TileOfficeModel", "floors", "I", false)
  | 41 => ("TileOfficeModel", "life", "I", false)
  | 42 => ("TileOfficeModel", "its", "I", false)
  | 43 => ("TileOfficeModel", "opens", "I", false)
  | 44 => ("TileOfficeModel", "lying", "[I", true)
  | 45 => ("TileOfficeModel", "left", "[I", true)
  | 46 => ("TileOfficeModel", "open", "[I", true)
  | 47 => ("TileOfficeModel", "dPlace", "[I", true)
  | 48 => ("TileOfficeModel", "dTried", "[I", true)
  | 49 => ("TileOfficeModel", "depth", "I", false)
  | 50 => ("TileOfficeModel", "steps", "I", false)
  | 51 => ("TileOfficeModel", "found", "I", false)
  | 52 => ("TileOfficeModel", "cost", "I", false)
  | 53 => ("TileOfficeModel", "best", "I", false)
  | _ => ("TileOfficeModel", "isOut", "Z", false)
def tyX12 : Nat → FieldType := fun k => match k with
  | 0 => .array .int
  | 1 => .array .int
  | 2 => .array .int
  | 3 => .array .boolean
  | 4 => .array .long
  | 5 => .int
  | 6 => .array .int
  | 7 => .array .int
  | 8 => .array .int
  | 9 => .int
  | 10 => .array .int
  | 11 => .array .int
  | 12 => .int
  | 13 => .array .int
  | 14 => .array .int
  | 15 => .array .int
  | 16 => .int
  | 17 => .int
  | 18 => .int
  | 19 => .int
  | 20 => .array .int
  | 21 => .array .int
  | 22 => .array .boolean
  | 23 => .array .boolean
  | 24 => .int
  | 25 => .int
  | 26 => .array .int
  | 27 => .array .int
  | 28 => .array .int
  | 29 => .int
  | 30 => .array .int
  | 31 => .array .int
  | 32 => .array .int
  | 33 => .array .long
  | 34 => .array .long
  | 35 => .array .int
  | 36 => .array .int
  | 37 => .array .int
  | 38 => .array .int
  | 39 => .array .int
  | 40 => .int
  | 41 => .int
  | 42 => .int
  | 43 => .int
  | 44 => .array .int
  | 45 => .array .int
  | 46 => .array .int
  | 47 => .array .int
  | 48 => .array .int
  | 49 => .int
  | 50 => .int
  | 51 => .int
  | 52 => .int
  | 53 => .int
  | _ => .boolean
abbrev wsX120 : List Cond := u_ws RX12 TX12 55
theorem nmX12 : ∀ a, a < 55 → ∀ b, b < 55 → a ≠ b → (TX12 a).2.1 ≠ (TX12 b).2.1 := by decide +kernel
theorem tyX12_ok : ∀ k, k < 55 → parseFieldDescriptor (TX12 k).2.2.1 = some (tyX12 k) := by decide +kernel
abbrev cX12_init : ByteArray := prog_14_method_1_code
def yX12_init : MethodName := ⟨RX12, "<init>", "()V"⟩
abbrev cX12_plain : ByteArray := prog_14_method_2_code
def yX12_plain : MethodName := ⟨RX12, "plain", "(J)J"⟩
abbrev cX12_kind : ByteArray := prog_14_method_3_code
def yX12_kind : MethodName := ⟨RX12, "kind", "(IIZIJ)I"⟩
abbrev cX12_named : ByteArray := prog_14_method_4_code
def yX12_named : MethodName := ⟨RX12, "named", "(J)I"⟩
abbrev cX12_isMove : ByteArray := prog_14_method_5_code
def yX12_isMove : MethodName := ⟨RX12, "isMove", "(I)Z"⟩
abbrev cX12_isKind : ByteArray := prog_14_method_6_code
def yX12_isKind : MethodName := ⟨RX12, "isKind", "(I)Z"⟩
abbrev cX12_lies : ByteArray := prog_14_method_7_code
def yX12_lies : MethodName := ⟨RX12, "lies", "(II)I"⟩
abbrev cX12_thenMove : ByteArray := prog_14_method_8_code
def yX12_thenMove : MethodName := ⟨RX12, "thenMove", "(II)I"⟩
abbrev cX12_then : ByteArray := prog_14_method_9_code
def yX12_then : MethodName := ⟨RX12, "then", "(II)I"⟩
abbrev cX12_colour : ByteArray := prog_14_method_10_code
def yX12_colour : MethodName := ⟨RX12, "colour", "(III)I"⟩
abbrev cX12_edge : ByteArray := prog_14_method_11_code
def yX12_edge : MethodName := ⟨RX12, "edge", "(III)I"⟩
abbrev cX12_cell : ByteArray := prog_14_method_12_code
def yX12_cell : MethodName := ⟨RX12, "cell", "(III)I"⟩
abbrev cX12_kindOf : ByteArray := prog_14_method_13_code
def yX12_kindOf : MethodName := ⟨RX12, "kindOf", "(I)I"⟩
abbrev cX12_moveOf : ByteArray := prog_14_method_14_code
def yX12_moveOf : MethodName := ⟨RX12, "moveOf", "(I)I"⟩
abbrev cX12_shadeOf : ByteArray := prog_14_method_15_code
def yX12_shadeOf : MethodName := ⟨RX12, "shadeOf", "(I)I"⟩
abbrev cX12_moved : ByteArray := prog_14_method_16_code
def yX12_moved : MethodName := ⟨RX12, "moved", "(II)I"⟩
abbrev cX12_fit : ByteArray := prog_14_method_17_code
def yX12_fit : MethodName := ⟨RX12, "fit", "(III)Z"⟩
abbrev cX12_isPattern : ByteArray := prog_14_method_18_code
def yX12_isPattern : MethodName := ⟨RX12, "isPattern", "(I)Z"⟩
abbrev cX12_rowOf : ByteArray := prog_14_method_19_code
def yX12_rowOf : MethodName := ⟨RX12, "rowOf", "(II)I"⟩
abbrev cX12_newRow : ByteArray := prog_14_method_20_code
def yX12_newRow : MethodName := ⟨RX12, "newRow", "(II)I"⟩
abbrev cX12_has : ByteArray := prog_14_method_21_code
def yX12_has : MethodName := ⟨RX12, "has", "(IJJ)Z"⟩
abbrev cX12_placeOf : ByteArray := prog_14_method_22_code
def yX12_placeOf : MethodName := ⟨RX12, "placeOf", "(III)I"⟩
abbrev cX12_cellAt : ByteArray := prog_14_method_23_code
def yX12_cellAt : MethodName := ⟨RX12, "cellAt", "(III)I"⟩
abbrev cX12_keep : ByteArray := prog_14_method_24_code
def yX12_keep : MethodName := ⟨RX12, "keep", "(I)V"⟩
abbrev cX12_undo : ByteArray := prog_14_method_25_code
def yX12_undo : MethodName := ⟨RX12, "undo", "()I"⟩
abbrev cX12_pattern : ByteArray := prog_14_method_26_code
def yX12_pattern : MethodName := ⟨RX12, "pattern", "()I"⟩
abbrev cX12_insert : ByteArray := prog_14_method_27_code
def yX12_insert : MethodName := ⟨RX12, "insert", "(IIII)Z"⟩
abbrev cX12_takeRow : ByteArray := prog_14_method_28_code
def yX12_takeRow : MethodName := ⟨RX12, "takeRow", "(II)V"⟩
abbrev cX12_remove : ByteArray := prog_14_method_29_code
def yX12_remove : MethodName := ⟨RX12, "remove", "(II)Z"⟩
abbrev cX12_move : ByteArray := prog_14_method_30_code
def yX12_move : MethodName := ⟨RX12, "move", "(III)Z"⟩
abbrev cX12_own : ByteArray := prog_14_method_31_code
def yX12_own : MethodName := ⟨RX12, "own", "(II)V"⟩
abbrev cX12_sets : ByteArray := prog_14_method_32_code
def yX12_sets : MethodName := ⟨RX12, "sets", "(IIII)Z"⟩
abbrev cX12_put : ByteArray := prog_14_method_33_code
def yX12_put : MethodName := ⟨RX12, "put", "(IIIII)Z"⟩
abbrev cX12_shade : ByteArray := prog_14_method_34_code
def yX12_shade : MethodName := ⟨RX12, "shade", "(IIII)Z"⟩
abbrev cX12_at : ByteArray := prog_14_method_35_code
def yX12_at : MethodName := ⟨RX12, "at", "(IIII)I"⟩
abbrev cX12_row : ByteArray := prog_14_method_36_code
def yX12_row : MethodName := ⟨RX12, "row", "(III)I"⟩
abbrev cX12_shares : ByteArray := prog_14_method_37_code
def yX12_shares : MethodName := ⟨RX12, "shares", "(IIII)Z"⟩
abbrev cX12_copy : ByteArray := prog_14_method_38_code
def yX12_copy : MethodName := ⟨RX12, "copy", "(I)I"⟩
abbrev cX12_comesFrom : ByteArray := prog_14_method_39_code
def yX12_comesFrom : MethodName := ⟨RX12, "comesFrom", "(IIIII)V"⟩
abbrev cX12_region : ByteArray := prog_14_method_40_code
def yX12_region : MethodName := ⟨RX12, "region", "(IIIII)I"⟩
abbrev cX12_turn : ByteArray := prog_14_method_41_code
def yX12_turn : MethodName := ⟨RX12, "turn", "(I)Z"⟩
abbrev cX12_paste : ByteArray := prog_14_method_42_code
def yX12_paste : MethodName := ⟨RX12, "paste", "(III)I"⟩
abbrev cX12_comes : ByteArray := prog_14_method_43_code
def yX12_comes : MethodName := ⟨RX12, "comes", "(IIII)I"⟩
abbrev cX12_isRule : ByteArray := prog_14_method_44_code
def yX12_isRule : MethodName := ⟨RX12, "isRule", "(I)Z"⟩
abbrev cX12_rule : ByteArray := prog_14_method_45_code
def yX12_rule : MethodName := ⟨RX12, "rule", "(II)I"⟩
abbrev cX12_becomes : ByteArray := prog_14_method_46_code
def yX12_becomes : MethodName := ⟨RX12, "becomes", "(IIIIII)Z"⟩
abbrev cX12_grow : ByteArray := prog_14_method_47_code
def yX12_grow : MethodName := ⟨RX12, "grow", "(III)I"⟩
abbrev cX12_grown : ByteArray := prog_14_method_48_code
def yX12_grown : MethodName := ⟨RX12, "grown", "(III)Z"⟩
abbrev cX12_block : ByteArray := prog_14_method_49_code
def yX12_block : MethodName := ⟨RX12, "block", "(IIII)I"⟩
abbrev cX12_sum : ByteArray := prog_14_method_50_code
def yX12_sum : MethodName := ⟨RX12, "sum", "(JJ)J"⟩
abbrev cX12_foretold : ByteArray := prog_14_method_51_code
def yX12_foretold : MethodName := ⟨RX12, "foretold", "(IIII)J"⟩
abbrev cX12_count : ByteArray := prog_14_method_52_code
def yX12_count : MethodName := ⟨RX12, "count", "(II)I"⟩
abbrev cX12_fits : ByteArray := prog_14_method_53_code
def yX12_fits : MethodName := ⟨RX12, "fits", "(I)I"⟩
abbrev cX12_period : ByteArray := prog_14_method_54_code
def yX12_period : MethodName := ⟨RX12, "period", "(II)I"⟩
abbrev cX12_comesAgain : ByteArray := prog_14_method_55_code
def yX12_comesAgain : MethodName := ⟨RX12, "comesAgain", "(III)Z"⟩
abbrev cX12_isFull : ByteArray := prog_14_method_56_code
def yX12_isFull : MethodName := ⟨RX12, "isFull", "(I)Z"⟩
abbrev cX12_wide : ByteArray := prog_14_method_57_code
def yX12_wide : MethodName := ⟨RX12, "wide", "(I)I"⟩
abbrev cX12_movedCell : ByteArray := prog_14_method_58_code
def yX12_movedCell : MethodName := ⟨RX12, "movedCell", "(IIII)I"⟩
abbrev cX12_isMoved : ByteArray := prog_14_method_59_code
def yX12_isMoved : MethodName := ⟨RX12, "isMoved", "(III)Z"⟩
abbrev cX12_kept : ByteArray := prog_14_method_60_code
def yX12_kept : MethodName := ⟨RX12, "kept", "(I)I"⟩
abbrev cX12_congruent : ByteArray := prog_14_method_61_code
def yX12_congruent : MethodName := ⟨RX12, "congruent", "(II)I"⟩
abbrev cX12_isFound : ByteArray := prog_14_method_62_code
def yX12_isFound : MethodName := ⟨RX12, "isFound", "(IIIII)Z"⟩
abbrev cX12_find : ByteArray := prog_14_method_63_code
def yX12_find : MethodName := ⟨RX12, "find", "(III)I"⟩
abbrev cX12_isFloor : ByteArray := prog_14_method_64_code
def yX12_isFloor : MethodName := ⟨RX12, "isFloor", "(I)Z"⟩
abbrev cX12_floor : ByteArray := prog_14_method_65_code
def yX12_floor : MethodName := ⟨RX12, "floor", "(II)I"⟩
abbrev cX12_isPlace : ByteArray := prog_14_method_66_code
def yX12_isPlace : MethodName := ⟨RX12, "isPlace", "(III)Z"⟩
abbrev cX12_place : ByteArray := prog_14_method_67_code
def yX12_place : MethodName := ⟨RX12, "place", "(IIIII)Z"⟩
abbrev cX12_stock : ByteArray := prog_14_method_68_code
def yX12_stock : MethodName := ⟨RX12, "stock", "(III)Z"⟩
abbrev cX12_shown : ByteArray := prog_14_method_69_code
def yX12_shown : MethodName := ⟨RX12, "shown", "(III)I"⟩
abbrev cX12_lyingAt : ByteArray := prog_14_method_70_code
def yX12_lyingAt : MethodName := ⟨RX12, "lyingAt", "(II)I"⟩
abbrev cX12_mayLie : ByteArray := prog_14_method_71_code
def yX12_mayLie : MethodName := ⟨RX12, "mayLie", "(II)Z"⟩
abbrev cX12_nextFitting : ByteArray := prog_14_method_72_code
def yX12_nextFitting : MethodName := ⟨RX12, "nextFitting", "(II)I"⟩
abbrev cX12_fitting : ByteArray := prog_14_method_73_code
def yX12_fitting : MethodName := ⟨RX12, "fitting", "(I)I"⟩
abbrev cX12_starts : ByteArray := prog_14_method_74_code
def yX12_starts : MethodName := ⟨RX12, "starts", "(I)Z"⟩
abbrev cX12_show : ByteArray := prog_14_method_75_code
def yX12_show : MethodName := ⟨RX12, "show", "()V"⟩
abbrev cX12_nextPlace : ByteArray := prog_14_method_76_code
def yX12_nextPlace : MethodName := ⟨RX12, "nextPlace", "()I"⟩
abbrev cX12_lay : ByteArray := prog_14_method_77_code
def yX12_lay : MethodName := ⟨RX12, "lay", "(II)V"⟩
abbrev cX12_takeBack : ByteArray := prog_14_method_78_code
def yX12_takeBack : MethodName := ⟨RX12, "takeBack", "(I)V"⟩
abbrev cX12_leastCost : ByteArray := prog_14_method_79_code
def yX12_leastCost : MethodName := ⟨RX12, "leastCost", "()I"⟩
abbrev cX12_search : ByteArray := prog_14_method_80_code
def yX12_search : MethodName := ⟨RX12, "search", "(IZ)V"⟩
abbrev cX12_fill : ByteArray := prog_14_method_81_code
def yX12_fill : MethodName := ⟨RX12, "fill", "(I)I"⟩
abbrev cX12_fills : ByteArray := prog_14_method_82_code
def yX12_fills : MethodName := ⟨RX12, "fills", "(II)I"⟩
abbrev cX12_cheapest : ByteArray := prog_14_method_83_code
def yX12_cheapest : MethodName := ⟨RX12, "cheapest", "(I)I"⟩
abbrev cX12_forced : ByteArray := prog_14_method_84_code
def yX12_forced : MethodName := ⟨RX12, "forced", "(I)I"⟩
abbrev cX12_about : ByteArray := prog_14_method_85_code
def yX12_about : MethodName := ⟨RX12, "about", "(I)I"⟩
def RJx8e188 : String := "java/lang/Cloneable"
def TJx8e188 : u_T := fun k => match k with
  | _ => ("", "", "", false)
def tyJx8e188 : Nat → FieldType := fun k => match k with
  | _ => .int
abbrev wsJx8e1880 : List Cond := u_ws RJx8e188 TJx8e188 0
theorem nmJx8e188 : ∀ a, a < 0 → ∀ b, b < 0 → a ≠ b → (TJx8e188 a).2.1 ≠ (TJx8e188 b).2.1 := by decide +kernel
theorem tyJx8e188_ok : ∀ k, k < 0 → parseFieldDescriptor (TJx8e188 k).2.2.1 = some (tyJx8e188 k) := by decide +kernel
def RJ6 : String := "java/lang/Integer"
def TJ6 : u_T := fun k => match k with
  | _ => ("", "", "", false)
def tyJ6 : Nat → FieldType := fun k => match k with
  | _ => .int
abbrev wsJ60 : List Cond := u_ws RJ6 TJ6 0
theorem nmJ6 : ∀ a, a < 0 → ∀ b, b < 0 → a ≠ b → (TJ6 a).2.1 ≠ (TJ6 b).2.1 := by decide +kernel
theorem tyJ6_ok : ∀ k, k < 0 → parseFieldDescriptor (TJ6 k).2.2.1 = some (tyJ6 k) := by decide +kernel
abbrev cJ6_numberOfTrailingZeros_0f7a4 : ByteArray := prog_16_method_48_code
def yJ6_numberOfTrailingZeros_0f7a4 : MethodName := ⟨RJ6, "numberOfTrailingZeros", "(I)I"⟩
abbrev cJ6_bitCount_0f7a4 : ByteArray := prog_16_method_49_code
def yJ6_bitCount_0f7a4 : MethodName := ⟨RJ6, "bitCount", "(I)I"⟩
def RJ13 : String := "java/lang/Long"
def TJ13 : u_T := fun k => match k with
  | _ => ("", "", "", false)
def tyJ13 : Nat → FieldType := fun k => match k with
  | _ => .int
abbrev wsJ130 : List Cond := u_ws RJ13 TJ13 0
theorem nmJ13 : ∀ a, a < 0 → ∀ b, b < 0 → a ≠ b → (TJ13 a).2.1 ≠ (TJ13 b).2.1 := by decide +kernel
theorem tyJ13_ok : ∀ k, k < 0 → parseFieldDescriptor (TJ13 k).2.2.1 = some (tyJ13 k) := by decide +kernel
abbrev cJ13_numberOfTrailingZeros_95d88 : ByteArray := prog_17_method_49_code
def yJ13_numberOfTrailingZeros_95d88 : MethodName := ⟨RJ13, "numberOfTrailingZeros", "(J)I"⟩
abbrev cJ13_bitCount_95d88 : ByteArray := prog_17_method_50_code
def yJ13_bitCount_95d88 : MethodName := ⟨RJ13, "bitCount", "(J)I"⟩
def RJ9 : String := "java/lang/Math"
def TJ9 : u_T := fun k => match k with
  | _ => ("", "", "", false)
def tyJ9 : Nat → FieldType := fun k => match k with
  | _ => .int
abbrev wsJ90 : List Cond := u_ws RJ9 TJ9 0
theorem nmJ9 : ∀ a, a < 0 → ∀ b, b < 0 → a ≠ b → (TJ9 a).2.1 ≠ (TJ9 b).2.1 := by decide +kernel
theorem tyJ9_ok : ∀ k, k < 0 → parseFieldDescriptor (TJ9 k).2.2.1 = some (tyJ9 k) := by decide +kernel
abbrev cJ9_floorDiv_7cf53 : ByteArray := prog_18_method_47_code
def yJ9_floorDiv_7cf53 : MethodName := ⟨RJ9, "floorDiv", "(II)I"⟩
abbrev cJ9_floorMod_7cf53 : ByteArray := prog_18_method_50_code
def yJ9_floorMod_7cf53 : MethodName := ⟨RJ9, "floorMod", "(II)I"⟩
abbrev cJ9_max_7cf53 : ByteArray := prog_18_method_65_code
def yJ9_max_7cf53 : MethodName := ⟨RJ9, "max", "(II)I"⟩
abbrev cJ9_min_7cf53 : ByteArray := prog_18_method_69_code
def yJ9_min_7cf53 : MethodName := ⟨RJ9, "min", "(II)I"⟩
def RJ10 : String := "java/lang/System"
def TJ10 : u_T := fun k => match k with
  | _ => ("", "", "", false)
def tyJ10 : Nat → FieldType := fun k => match k with
  | _ => .int
abbrev wsJ100 : List Cond := u_ws RJ10 TJ10 0
theorem nmJ10 : ∀ a, a < 0 → ∀ b, b < 0 → a ≠ b → (TJ10 a).2.1 ≠ (TJ10 b).2.1 := by decide +kernel
theorem tyJ10_ok : ∀ k, k < 0 → parseFieldDescriptor (TJ10 k).2.2.1 = some (tyJ10 k) := by decide +kernel
def RJ7 : String := "java/util/Arrays"
def TJ7 : u_T := fun k => match k with
  | _ => ("", "", "", false)
def tyJ7 : Nat → FieldType := fun k => match k with
  | _ => .int
abbrev wsJ70 : List Cond := u_ws RJ7 TJ7 0
theorem nmJ7 : ∀ a, a < 0 → ∀ b, b < 0 → a ≠ b → (TJ7 a).2.1 ≠ (TJ7 b).2.1 := by decide +kernel
theorem tyJ7_ok : ∀ k, k < 0 → parseFieldDescriptor (TJ7 k).2.2.1 = some (tyJ7 k) := by decide +kernel
abbrev cJ7_fill_d0a16 : ByteArray := prog_20_method_101_code
def yJ7_fill_d0a16 : MethodName := ⟨RJ7, "fill", "([JJ)V"⟩
abbrev cJ7_fill_53178 : ByteArray := prog_20_method_103_code
def yJ7_fill_53178 : MethodName := ⟨RJ7, "fill", "([II)V"⟩
def RL : String := "TileOfficeLaw"
abbrev cL_law : ByteArray := code
def yL_law : MethodName := ⟨RL, "law", "([I)Z"⟩
end
section
/-! The small machine: typed cells numbered from 0 on. 'Ex' says: from here the machine comes to the method's end with Q of its answer and its heap. -/
abbrev mj_H : Type := List (Nat × Nat) × (Nat → Nat → Int32) × (Nat → Nat → Int64) × (Nat → Nat → Option Nat)
def mT (h : mj_H) (a : Nat) : Option (Nat × Nat) := h.1[a]?
def mI (h : mj_H) : Nat → Nat → Int32 := h.2.1
def mL (h : mj_H) : Nat → Nat → Int64 := h.2.2.1
def mR (h : mj_H) : Nat → Nat → Option Nat := h.2.2.2
def mN (h : mj_H) : Nat := h.1.length
def mZ (h : mj_H) : Nat := (h.1.map (fun q => q.2)).sum
def wA (h : mj_H) (a : Nat) (f : Nat → Int32) : mj_H := (h.1, va_up h.2.1 a f, h.2.2)
def wI (h : mj_H) (a k : Nat) (v : Int32) : mj_H := wA h a (va_up (mI h a) k v)
def wL (h : mj_H) (a k : Nat) (v : Int64) : mj_H := (h.1, h.2.1, va_up h.2.2.1 a (va_up (h.2.2.1 a) k v), h.2.2.2)
def wR (h : mj_H) (a k : Nat) (v : Option Nat) : mj_H := (h.1, h.2.1, h.2.2.1, va_up h.2.2.2 a (va_up (h.2.2.2 a) k v))
def mNew (h : mj_H) (t n : Nat) : mj_H := (h.1 ++ [(t, n)], va_up h.2.1 h.1.length (fun _ => 0), va_up h.2.2.1 h.1.length (fun _ => 0), va_up h.2.2.2 h.1.length (fun _ => none))
/-- a method: its name, bytes, locals, answer, frames and words of room below it -/
abbrev mj_Y : Type := MethodName × ByteArray × Nat × Option FieldType × Nat × Nat
abbrev mj_S : Type := Nat × (Nat → Int32)
abbrev mj_L : Type := List (Option Value)
abbrev mj_classes : List vw_C := [(RX0, TX0, 3), (RX1, TX1, 11), (RX3, TX3, 4), (RX4, TX4, 5), (RX5, TX5, 5), (RX6, TX6, 6), (RX7, TX7, 3), (RX8, TX8, 3), (RX9, TX9, 5), (RX10, TX10, 13), (RX11, TX11, 15), (RX12, TX12, 55)]
def mj_ft (c : Nat) : Nat → FieldType := match c with
  | 0 => tyX0
  | 1 => tyX1
  | 2 => tyX3
  | 3 => tyX4
  | 4 => tyX5
  | 5 => tyX6
  | 6 => tyX7
  | 7 => tyX8
  | 8 => tyX9
  | 9 => tyX10
  | 10 => tyX11
  | _ => tyX12
def mj_isR (t : FieldType) : Bool := match t with
  | .object _ => true
  | .array _ => true
  | _ => false
abbrev mj_tys (cA : Nat → ClassId) : List (ClassId × FieldType) := [(cA 0, .int), (cA 1, .long), (cA 2, .boolean), (cA 3, .array .int), (cA 4, .object RX7), (cA 5, .object RX9), (cA 6, .object RX4)]
def mj_v (b base : Nat) (v : Value) : Value := match v with
  | .ref a => .ref (base + a)
  | .float _ => .ref b
  | v => v
def mj_q (base : Nat) (R : Nat → Option Nat) : Nat → Option Nat := fun j => (R j).map (fun a => base + a)
def mj_fs (base c n : Nat) (I : Nat → Int32) (R : Nat → Option Nat) : List Value := (List.range n).map (fun k => if mj_isR (mj_ft c k) = true then va_rf (mj_q base R k) else .int (I k))
def mj_e (base : Nat) (cA : Nat → ClassId) (t : Nat × Nat) (I : Nat → Int32) (L : Nat → Int64) (R : Nat → Option Nat) : va_E :=
  if t.1 = 0 then .inl (cA 0, t.2, .inl I)
  else if t.1 = 1 then .inl (cA 1, t.2, .inr (.inl L))
  else if t.1 = 2 then .inl (cA 2, t.2, .inl I)
  else if t.1 < 10 then .inl (cA t.1, t.2, .inr (.inr (.inr (.inr (mj_q base R)))))
  else .inr (t.1 - 10, mj_fs base (t.1 - 10) t.2 I R)
def mj_w (base : Nat) (cA : Nat → ClassId) (h : mj_H) : va_W := h.1.mapIdx (fun k t => (base + k, mj_e base cA t (mI h k) (mL h k) (mR h k)))
def mj_P (base : Nat) (D : va_G) (cA : Nat → ClassId) (h : mj_H) (H : Heap) : Prop := va_P D mj_classes (mj_w base cA h) H ∧ H.size = base + mN h
def mj_l (b base : Nat) (ls : mj_L) (rls : Array Slot) : Prop := rls.size = ls.length ∧ lv_wf rls ∧ ∀ (k : Nat) (v : Value), ls[k]? = some (some v) → rls[k]? = some (.val (mj_v b base v))
def lw_g : List Cond := lw_tbl.filter goodWord
def mj_AOA (U : State) : Prop := (Cond.arrayOver (.array .int)).before #[] U = true
def mj_N (U : State) : Prop := va_Nw (.methodLinkNest "TileOffice" 9 yX6_init "TileOffice") U ∧ va_Nw (.methodLinkNest "TileOffice" 41 yX8_init "TileOffice") U ∧ va_Nw (.methodLinkNest "TileOffice" 54 yX5_init "TileOffice") U ∧
  va_AO RX7 U ∧ va_AO RX9 U ∧ va_AO RX4 U ∧ mj_AOA U ∧ va_Nw (.castable "[I" "java/lang/Cloneable") U
/-- what holds of the machine all along a method's run -/
def mj_C (S : mj_S) (μ : mj_Y) (p : Program) (R : Room) (s : State) (m : MethodId) (args : Array Value) (meth : Method) (c : Code) (b base : Nat) (D : va_G) (cA : Nat → ClassId) : Prop :=
  p.tables.exec = Jvm.exec ∧ c.code = μ.2.1 ∧ c.maxLocals = μ.2.2.1 ∧ s.vm.findClass μ.1.cls = some m.cls ∧ meth.sig.returnType = μ.2.2.2.1 ∧ meth.locks = false ∧ (μ.1.name = "<init>" → meth.name = "<init>") ∧
  (∀ w ∈ lw_g, w.before args s = true) ∧ mj_N s ∧ va_K D mj_classes (mj_tys cA) s ∧ μ.2.2.2.2.1 ≤ R.frames ∧ μ.2.2.2.2.2 ≤ R.locals ∧ base ≤ s.heap.size ∧ (μ.1 = yL_law → va_X b S.1 S.2 s s.heap ∧ b < base)
/-- the return instruction at pc fits the answer -/
def mj_ret (μ : mj_Y) (pc : Nat) (r : Option Value) : Prop := match r with
  | none => μ.2.2.2.1 = none ∧ decode μ.2.1 pc = .ok (.return_, 1)
  | some (.int v) => ∃ ty, μ.2.2.2.1 = some ty ∧ narrow ty (.int v) = .int v ∧ decode μ.2.1 pc = .ok (.ireturn, 1)
  | some (.long _) => μ.2.2.2.1 = some .long ∧ decode μ.2.1 pc = .ok (.lreturn, 1)
  | some (.ref _) => ∃ ty, μ.2.2.2.1 = some ty ∧ ((∃ n, ty = .object n) ∨ ∃ t, ty = .array t) ∧ decode μ.2.1 pc = .ok (.areturn, 1)
  | some .null => ∃ ty, μ.2.2.2.1 = some ty ∧ ((∃ n, ty = .object n) ∨ ∃ t, ty = .array t) ∧ decode μ.2.1 pc = .ok (.areturn, 1)
  | _ => False
/-- what is known of the end: at a return with that answer and heap the goal is met -/
def mj_E (μ : mj_Y) (r : Option Value) (h' : mj_H) (p : Program) (l : Launch) (e : Env) (R : Room) (s : State) (m : MethodId) (args : Array Value) (below : List Frame) (meth : Method) (c : Code) (b base : Nat) (D : va_G) (cA : Nat → ClassId) (n0 z0 : Nat) (Q : State → Prop) : Prop :=
  ∀ (H : Heap) (locs : List Loc) (rls : Array Slot) (pc : Nat), mj_P base D cA h' H → va_S (fun q => base ≤ q) s.heap H locs → mj_ret μ pc r → W p l e R s m args below meth c H locs (mN h' - n0) (mZ h' - z0) Q (F0 m pc rls (r.toList.map (mj_v b base)))
def mj_Go (S : mj_S) (μ : mj_Y) (pc : Nat) (ls : mj_L) (st : List Value) (h : mj_H) (r : Option Value) (h' : mj_H) : Prop :=
  mN h ≤ mN h' ∧ mZ h ≤ mZ h' ∧ ∀ (p : Program) (l : Launch) (e : Env) (R : Room) (s : State) (m : MethodId) (args : Array Value) (below : List Frame) (meth : Method) (c : Code) (b base : Nat) (D : va_G) (cA : Nat → ClassId), mj_C S μ p R s m args meth c b base D cA →
    ∀ (n0 z0 : Nat) (Q : State → Prop), n0 ≤ mN h → z0 ≤ mZ h → mN h' - n0 ≤ R.cells → mZ h' - z0 ≤ R.slots → mj_E μ r h' p l e R s m args below meth c b base D cA n0 z0 Q →
    ∀ (H : Heap) (locs : List Loc) (rls : Array Slot), mj_P base D cA h H → va_S (fun q => base ≤ q) s.heap H locs → mj_l b base ls rls → W p l e R s m args below meth c H locs (mN h - n0) (mZ h - z0) Q (F0 m pc rls (st.map (mj_v b base)))
def Ex (S : mj_S) (μ : mj_Y) (pc : Nat) (ls : mj_L) (st : List Value) (h : mj_H) (Q : Option Value → mj_H → Prop) : Prop := ∃ (r : Option Value) (h' : mj_H), Q r h' ∧ mj_Go S μ pc ls st h r h'
theorem mj_w_get {base : Nat} {cA : Nat → ClassId} {h : mj_H} {a : Nat} {t : Nat × Nat} (ht : mT h a = some t) : (mj_w base cA h)[a]? = some (base + a, mj_e base cA t (mI h a) (mL h a) (mR h a)) := by
  unfold mj_w
  rw [List.getElem?_mapIdx]
  unfold mT at ht
  rw [ht]; rfl
theorem mj_w_D {base : Nat} {cA : Nat → ClassId} {h : mj_H} : va_D (fun q => base ≤ q) (mj_w base cA h) := by
  have key : ∀ (k : Nat) (q : Nat × va_E), (mj_w base cA h)[k]? = some q → q.1 = base + k := by
    intro k q hq
    unfold mj_w at hq
    rw [List.getElem?_mapIdx] at hq
    cases hz : h.1[k]? with
    | none => rw [hz] at hq; cases hq
    | some t => rw [hz] at hq; cases hq; rfl
  refine ⟨fun i j p q h1 h2 h3 => ?_, fun k q hq => ?_⟩
  · have e1 := key i p h1
    have e2 := key j q h2
    omega
  · have e1 := key k q hq
    show base ≤ q.1
    omega
theorem mj_w_set {base : Nat} {cA : Nat → ClassId} {h h1 : mj_H} {a : Nat} {t : Nat × Nat} {e : va_E} (ht : mT h a = some t) (hT : h1.1 = h.1) (he : mj_e base cA t (mI h1 a) (mL h1 a) (mR h1 a) = e) (ho : ∀ k, k ≠ a → mI h1 k = mI h k ∧ mL h1 k = mL h k ∧ mR h1 k = mR h k) : (mj_w base cA h).set a (base + a, e) = mj_w base cA h1 := by
  apply List.ext_getElem?
  intro i
  by_cases hi : i = a
  · subst hi
    have hlt : i < (mj_w base cA h).length := (List.getElem?_eq_some_iff.mp (mj_w_get (base := base) (cA := cA) ht)).1
    rw [List.getElem?_set_self hlt, mj_w_get (h := h1) (t := t) (by unfold mT; rw [hT]; exact ht), he]
  · rw [List.getElem?_set_ne (Ne.symm hi)]
    unfold mj_w
    rw [List.getElem?_mapIdx, List.getElem?_mapIdx, hT]
    obtain ⟨a1, a2, a3⟩ := ho i hi
    rw [a1, a2, a3]
theorem mj_w_new {base : Nat} {cA : Nat → ClassId} {h : mj_H} {t n : Nat} : mj_w base cA (mNew h t n) = mj_w base cA h ++ [(base + mN h, mj_e base cA (t, n) (fun _ => 0) (fun _ => 0) (fun _ => none))] := by
  apply List.ext_getElem?
  intro i
  have hlen : (mj_w base cA h).length = h.1.length := by unfold mj_w; rw [List.length_mapIdx]
  rcases Nat.lt_trichotomy i h.1.length with hi | hi | hi
  · rw [List.getElem?_append_left (by omega)]
    unfold mj_w
    rw [List.getElem?_mapIdx, List.getElem?_mapIdx]
    have hne : i ≠ h.1.length := by omega
    simp [mNew, mI, mL, mR, va_up, List.getElem?_append_left hi, hne]
  · subst hi
    rw [List.getElem?_append_right (by omega), hlen]
    unfold mj_w
    rw [List.getElem?_mapIdx]
    simp [mNew, mI, mL, mR, mN, va_up]
  · rw [List.getElem?_append_right (by omega), hlen]
    unfold mj_w
    rw [List.getElem?_mapIdx]
    rw [List.getElem?_eq_none (by simp [mNew]; omega), List.getElem?_eq_none (by simp; omega)]
    rfl
theorem mN_new (h : mj_H) (t n : Nat) : mN (mNew h t n) = mN h + 1 := by simp [mN, mNew]
theorem mZ_new (h : mj_H) (t n : Nat) : mZ (mNew h t n) = mZ h + n := by simp [mZ, mNew]
theorem mT_new_old {h : mj_H} {t n a : Nat} {x : Nat × Nat} (ha : mT h a = some x) : mT (mNew h t n) a = some x := by
  have hl := (List.getElem?_eq_some_iff.mp ha).1
  unfold mT at ha ⊢
  simp only [mNew]
  rw [List.getElem?_append_left hl]; exact ha
theorem mT_new_self (h : mj_H) (t n : Nat) : mT (mNew h t n) (mN h) = some (t, n) := by simp [mT, mNew, mN]
/-- a step that leaves the heap as it is -/
theorem mj_pure {S : mj_S} {μ : mj_Y} {pc pc' : Nat} {ls ls' : mj_L} {st st' : List Value} {h : mj_H} {Q0 : Option Value → mj_H → Prop}
    (hs : ∀ {p : Program} {l : Launch} {e : Env} {R : Room} {s : State} {m : MethodId} {args : Array Value} {below : List Frame} {meth : Method} {c : Code} {b base : Nat} {D : va_G} {cA : Nat → ClassId} {H : Heap} {locs : List Loc} {cells slots : Nat} {Q : State → Prop} {rls : Array Slot},
      mj_C S μ p R s m args meth c b base D cA → mj_P base D cA h H → va_S (fun q => base ≤ q) s.heap H locs → mj_l b base ls rls → (∀ rls' : Array Slot, mj_l b base ls' rls' → W p l e R s m args below meth c H locs cells slots Q (F0 m pc' rls' (st'.map (mj_v b base)))) → W p l e R s m args below meth c H locs cells slots Q (F0 m pc rls (st.map (mj_v b base))))
    (k : Ex S μ pc' ls' st' h Q0) : Ex S μ pc ls st h Q0 := by
  obtain ⟨r, h', q, g1, g2, g⟩ := k
  refine ⟨r, h', q, g1, g2, ?_⟩
  intro p l e R s m args below meth c b base D cA C n0 z0 Q hn hz hc hl E H locs rls P Sv Lr
  exact hs C P Sv Lr (fun rls' L' => g p l e R s m args below meth c b base D cA C n0 z0 Q hn hz hc hl E H locs rls' P Sv L')
/-- a step that writes, and makes nothing -/
theorem mj_wr {S : mj_S} {μ : mj_Y} {pc pc' : Nat} {ls : mj_L} {st st' : List Value} {h h1 : mj_H} {Q0 : Option Value → mj_H → Prop} (hT : h1.1 = h.1)
    (hs : ∀ {p : Program} {l : Launch} {e : Env} {R : Room} {s : State} {m : MethodId} {args : Array Value} {below : List Frame} {meth : Method} {c : Code} {b base : Nat} {D : va_G} {cA : Nat → ClassId} {H : Heap} {locs : List Loc} {cells slots : Nat} {Q : State → Prop} {rls : Array Slot},
      mj_C S μ p R s m args meth c b base D cA → mj_P base D cA h H → va_S (fun q => base ≤ q) s.heap H locs → mj_l b base ls rls → (∀ (H1 : Heap) (locs1 : List Loc), mj_P base D cA h1 H1 → va_S (fun q => base ≤ q) s.heap H1 locs1 → W p l e R s m args below meth c H1 locs1 cells slots Q (F0 m pc' rls (st'.map (mj_v b base)))) → W p l e R s m args below meth c H locs cells slots Q (F0 m pc rls (st.map (mj_v b base))))
    (k : Ex S μ pc' ls st' h1 Q0) : Ex S μ pc ls st h Q0 := by
  obtain ⟨r, h', q, g1, g2, g⟩ := k
  have eN : mN h1 = mN h := by unfold mN; rw [hT]
  have eZ : mZ h1 = mZ h := by unfold mZ; rw [hT]
  refine ⟨r, h', q, eN ▸ g1, eZ ▸ g2, ?_⟩
  intro p l e R s m args below meth c b base D cA C n0 z0 Q hn hz hc hl E H locs rls P Sv Lr
  refine hs C P Sv Lr (fun H1 locs1 P1 S1 => ?_)
  have z := g p l e R s m args below meth c b base D cA C n0 z0 Q (by rw [eN]; exact hn) (by rw [eZ]; exact hz) hc hl E H1 locs1 rls P1 S1 Lr
  rw [eN, eZ] at z
  exact z
/-- a step that makes a cell -/
theorem mj_mk {S : mj_S} {μ : mj_Y} {pc pc' : Nat} {ls : mj_L} {st st' : List Value} {h h1 : mj_H} {Q0 : Option Value → mj_H → Prop} {n : Nat} (hN : mN h1 = mN h + 1) (hZ : mZ h1 = mZ h + n)
    (hs : ∀ {p : Program} {l : Launch} {e : Env} {R : Room} {s : State} {m : MethodId} {args : Array Value} {below : List Frame} {meth : Method} {c : Code} {b base : Nat} {D : va_G} {cA : Nat → ClassId} {H : Heap} {locs : List Loc} {cells slots : Nat} {Q : State → Prop} {rls : Array Slot},
      mj_C S μ p R s m args meth c b base D cA → mj_P base D cA h H → va_S (fun q => base ≤ q) s.heap H locs → mj_l b base ls rls → cells + 1 ≤ R.cells → slots + n ≤ R.slots → (∀ (H1 : Heap), mj_P base D cA h1 H1 → va_S (fun q => base ≤ q) s.heap H1 locs → W p l e R s m args below meth c H1 locs (cells + 1) (slots + n) Q (F0 m pc' rls (st'.map (mj_v b base)))) → W p l e R s m args below meth c H locs cells slots Q (F0 m pc rls (st.map (mj_v b base))))
    (k : Ex S μ pc' ls st' h1 Q0) : Ex S μ pc ls st h Q0 := by
  obtain ⟨r, h', q, g1, g2, g⟩ := k
  refine ⟨r, h', q, by omega, by omega, ?_⟩
  intro p l e R s m args below meth c b base D cA C n0 z0 Q hn hz hc hl E H locs rls P Sv Lr
  refine hs C P Sv Lr (by omega) (by omega) (fun H1 P1 S1 => ?_)
  have z := g p l e R s m args below meth c b base D cA C n0 z0 Q (by omega) (by omega) hc hl E H1 locs rls P1 S1 Lr
  rw [hN, hZ, show mN h + 1 - n0 = mN h - n0 + 1 by omega, show mZ h + n - z0 = mZ h - z0 + n by omega] at z
  exact z
end
section
/-! Locals, and a row an instruction. -/
theorem mj_v_cat (b base : Nat) (v : Value) : (mj_v b base v).category = v.category := by cases v <;> rfl
def mj_lv (b base : Nat) (ls : mj_L) : List (Nat × Value) := (List.range ls.length).filterMap (fun k => match ls[k]? with
  | some (some v) => some (k, mj_v b base v)
  | _ => none)
theorem mj_lv_mem {b base : Nat} {ls : mj_L} {k : Nat} {v : Value} (h : ls[k]? = some (some v)) : (k, mj_v b base v) ∈ mj_lv b base ls := by
  unfold mj_lv
  rw [List.mem_filterMap]
  have hl := (List.getElem?_eq_some_iff.mp h).1
  exact ⟨k, List.mem_range.mpr hl, by rw [h]⟩
theorem mj_lv_of {b base : Nat} {ls : mj_L} {q : Nat × Value} (h : q ∈ mj_lv b base ls) : ∃ v, ls[q.1]? = some (some v) ∧ q.2 = mj_v b base v := by
  unfold mj_lv at h
  rw [List.mem_filterMap] at h
  obtain ⟨k, -, hk⟩ := h
  split at hk
  · rename_i v hv
    cases hk
    exact ⟨v, hv, rfl⟩
  · cases hk
theorem mj_l_has {b base : Nat} {ls : mj_L} {rls : Array Slot} (h : mj_l b base ls rls) : lv_has rls ls.length (mj_lv b base ls) := by
  refine ⟨h.1, h.2.1, fun q hq => ?_⟩
  obtain ⟨v, h1, h2⟩ := mj_lv_of hq
  rw [h2]
  exact h.2.2 _ _ h1
/-- a long just ahead of a local that is set is gone -/
def mj_clr (ls : mj_L) (k : Nat) : mj_L := match k with
  | 0 => ls
  | j + 1 => match ls[j]? with
    | some (some (.long _)) => ls.set j none
    | some (some (.double _)) => ls.set j none
    | _ => ls
def mj_st1 (ls : mj_L) (k : Nat) (v : Value) : mj_L := (mj_clr ls k).set k (some v)
def mj_st2 (ls : mj_L) (k : Nat) (v : Value) : mj_L := ((mj_clr ls k).set k (some v)).set (k + 1) none
theorem mj_clr_len (ls : mj_L) (k : Nat) : (mj_clr ls k).length = ls.length := by
  unfold mj_clr
  split
  · rfl
  · split <;> simp
theorem mj_clr_get {ls : mj_L} {k i : Nat} {v : Value} (hi : i ≠ k) (h : (mj_clr ls k)[i]? = some (some v)) : ls[i]? = some (some v) ∧ ¬ (i + 1 = k ∧ v.category = 2) := by
  cases k with
  | zero => exact ⟨h, by omega⟩
  | succ j =>
    simp only [mj_clr] at h
    by_cases hij : i = j
    · subst hij
      have key : ls[i]? = some (some v) ∧ v.category ≠ 2 := by
        split at h
        · rw [List.getElem?_set] at h
          simp at h
        · rw [List.getElem?_set] at h
          simp at h
        · rename_i n1 n2
          refine ⟨h, fun hc => ?_⟩
          cases v <;> first | (simp [Value.category] at hc; done) | exact n1 _ h | exact n2 _ h
      exact ⟨key.1, fun z => key.2 z.2⟩
    · have e : (match ls[j]? with
        | some (some (Value.long _)) => ls.set j none
        | some (some (Value.double _)) => ls.set j none
        | _ => ls)[i]? = ls[i]? := by
        split <;> first | rfl | (rw [List.getElem?_set_ne (Ne.symm hij)])
      rw [e] at h
      exact ⟨h, by omega⟩
theorem mj_l_st1 {b base : Nat} {ls : mj_L} {i : Nat} {v : Value} {rls' : Array Slot} (h : lv_has rls' ls.length ((i, mj_v b base v) :: (mj_lv b base ls).filter (fun q => !(q.1 == i) && !(q.1 + 1 == i && q.2.category == 2)))) (hi : i < ls.length) : mj_l b base (mj_st1 ls i v) rls' := by
  refine ⟨by rw [h.1]; unfold mj_st1; rw [List.length_set, mj_clr_len], h.2.1, fun k w hk => ?_⟩
  unfold mj_st1 at hk
  by_cases hki : k = i
  · subst hki
    rw [List.getElem?_set_self (by rw [mj_clr_len]; exact hi)] at hk
    cases hk
    exact h.2.2 (k, mj_v b base v) (List.mem_cons_self ..)
  · rw [List.getElem?_set_ne (Ne.symm hki)] at hk
    obtain ⟨h1, h2⟩ := mj_clr_get hki hk
    refine h.2.2 (k, mj_v b base w) (List.mem_cons_of_mem _ (List.mem_filter.mpr ⟨mj_lv_mem h1, ?_⟩))
    have h3 : ¬ (k + 1 = i ∧ (mj_v b base w).category = 2) := by rw [mj_v_cat]; exact h2
    simp only [Bool.and_eq_true, Bool.not_eq_true', beq_eq_false_iff_ne, Bool.and_eq_false_iff]
    refine ⟨hki, ?_⟩
    by_cases hz : k + 1 = i
    · exact Or.inr (fun z => h3 ⟨hz, z⟩)
    · exact Or.inl hz
theorem mj_l_st2 {b base : Nat} {ls : mj_L} {i : Nat} {v : Value} {rls' : Array Slot} (h : lv_has rls' ls.length ((i, mj_v b base v) :: (mj_lv b base ls).filter (fun q => !(q.1 == i) && (!(q.1 == i + 1) && !(q.1 + 1 == i && q.2.category == 2))))) (hi : i + 1 < ls.length) : mj_l b base (mj_st2 ls i v) rls' := by
  refine ⟨by rw [h.1]; unfold mj_st2; rw [List.length_set, List.length_set, mj_clr_len], h.2.1, fun k w hk => ?_⟩
  unfold mj_st2 at hk
  by_cases hk1 : k = i + 1
  · subst hk1
    rw [List.getElem?_set_self (by rw [List.length_set, mj_clr_len]; exact hi)] at hk
    cases hk
  · rw [List.getElem?_set_ne (Ne.symm hk1)] at hk
    by_cases hki : k = i
    · subst hki
      rw [List.getElem?_set_self (by rw [mj_clr_len]; omega)] at hk
      cases hk
      exact h.2.2 (k, mj_v b base v) (List.mem_cons_self ..)
    · rw [List.getElem?_set_ne (Ne.symm hki)] at hk
      obtain ⟨h1, h2⟩ := mj_clr_get hki hk
      refine h.2.2 (k, mj_v b base w) (List.mem_cons_of_mem _ (List.mem_filter.mpr ⟨mj_lv_mem h1, ?_⟩))
      have h3 : ¬ (k + 1 = i ∧ (mj_v b base w).category = 2) := by rw [mj_v_cat]; exact h2
      simp only [Bool.and_eq_true, Bool.not_eq_true', beq_eq_false_iff_ne, Bool.and_eq_false_iff]
      refine ⟨hki, hk1, ?_⟩
      by_cases hz : k + 1 = i
      · exact Or.inr (fun z => h3 ⟨hz, z⟩)
      · exact Or.inl hz
def mj_sub : mj_L → mj_L → Prop
  | [], [] => True
  | none :: a, _ :: b => mj_sub a b
  | some v :: a, w :: b => w = some v ∧ mj_sub a b
  | _, _ => False
theorem mj_sub_at : ∀ {a b : mj_L}, mj_sub a b → a.length = b.length ∧ ∀ (k : Nat) (v : Value), a[k]? = some (some v) → b[k]? = some (some v)
  | [], [], _ => ⟨rfl, fun k v h => by simp at h⟩
  | none :: a, w :: b, h => by
    obtain ⟨h1, h2⟩ := mj_sub_at (a := a) (b := b) h
    refine ⟨by simp [h1], fun k v hk => ?_⟩
    cases k with
    | zero => simp at hk
    | succ k => simpa using h2 k v (by simpa using hk)
  | some x :: a, w :: b, h => by
    obtain ⟨h0, h⟩ := h
    obtain ⟨h1, h2⟩ := mj_sub_at (a := a) (b := b) h
    refine ⟨by simp [h1], fun k v hk => ?_⟩
    cases k with
    | zero => simp at hk; subst hk; simp [h0]
    | succ k => simpa using h2 k v (by simpa using hk)
theorem mj_l_sub {b base : Nat} {ls ls' : mj_L} {rls : Array Slot} (hs : mj_sub ls' ls) (h : mj_l b base ls rls) : mj_l b base ls' rls := by
  obtain ⟨h1, h2⟩ := mj_sub_at hs
  exact ⟨by rw [h1]; exact h.1, h.2.1, fun k v hk => h.2.2 k v (h2 k v hk)⟩
section MJR
variable {S : mj_S} {μ : mj_Y} {pc : Nat} {ls : mj_L} {st : List Value} {h : mj_H} {Q : Option Value → mj_H → Prop}
theorem Ex_iadd {x y : Int32} (hd : decode μ.2.1 pc = .ok (.iadd, 1)) (k : Ex S μ (pc + 1) ls (.int (x + y) :: st) h Q) : Ex S μ pc ls (.int y :: .int x :: st) h Q := mj_pure (fun C P V L kk => lv_iadd C.1 C.2.1 hd (kk _ L)) k
theorem Ex_isub {x y : Int32} (hd : decode μ.2.1 pc = .ok (.isub, 1)) (k : Ex S μ (pc + 1) ls (.int (x - y) :: st) h Q) : Ex S μ pc ls (.int y :: .int x :: st) h Q := mj_pure (fun C P V L kk => lv_isub C.1 C.2.1 hd (kk _ L)) k
theorem Ex_imul {x y : Int32} (hd : decode μ.2.1 pc = .ok (.imul, 1)) (k : Ex S μ (pc + 1) ls (.int (x * y) :: st) h Q) : Ex S μ pc ls (.int y :: .int x :: st) h Q := mj_pure (fun C P V L kk => lv_imul C.1 C.2.1 hd (kk _ L)) k
theorem Ex_iand {x y : Int32} (hd : decode μ.2.1 pc = .ok (.iand, 1)) (k : Ex S μ (pc + 1) ls (.int (x &&& y) :: st) h Q) : Ex S μ pc ls (.int y :: .int x :: st) h Q := mj_pure (fun C P V L kk => lv_iand C.1 C.2.1 hd (kk _ L)) k
theorem Ex_ior {x y : Int32} (hd : decode μ.2.1 pc = .ok (.ior, 1)) (k : Ex S μ (pc + 1) ls (.int (x ||| y) :: st) h Q) : Ex S μ pc ls (.int y :: .int x :: st) h Q := mj_pure (fun C P V L kk => lv_ior C.1 C.2.1 hd (kk _ L)) k
theorem Ex_ixor {x y : Int32} (hd : decode μ.2.1 pc = .ok (.ixor, 1)) (k : Ex S μ (pc + 1) ls (.int (x ^^^ y) :: st) h Q) : Ex S μ pc ls (.int y :: .int x :: st) h Q := mj_pure (fun C P V L kk => lv_ixor C.1 C.2.1 hd (kk _ L)) k
theorem Ex_ishl {x y : Int32} (hd : decode μ.2.1 pc = .ok (.ishl, 1)) (k : Ex S μ (pc + 1) ls (.int (x <<< (y &&& 31)) :: st) h Q) : Ex S μ pc ls (.int y :: .int x :: st) h Q := mj_pure (fun C P V L kk => lv_ishl C.1 C.2.1 hd (kk _ L)) k
theorem Ex_ishr {x y : Int32} (hd : decode μ.2.1 pc = .ok (.ishr, 1)) (k : Ex S μ (pc + 1) ls (.int (x >>> (y &&& 31)) :: st) h Q) : Ex S μ pc ls (.int y :: .int x :: st) h Q := mj_pure (fun C P V L kk => lv_ishr C.1 C.2.1 hd (kk _ L)) k
theorem Ex_idiv {x y : Int32} (hd : decode μ.2.1 pc = .ok (.idiv, 1)) (hne : ¬ y = 0) (k : Ex S μ (pc + 1) ls (.int (x / y) :: st) h Q) : Ex S μ pc ls (.int y :: .int x :: st) h Q := mj_pure (fun C P V L kk => lv_idiv C.1 C.2.1 hd hne (kk _ L)) k
theorem Ex_irem {x y : Int32} (hd : decode μ.2.1 pc = .ok (.irem, 1)) (hne : ¬ y = 0) (k : Ex S μ (pc + 1) ls (.int (x - x / y * y) :: st) h Q) : Ex S μ pc ls (.int y :: .int x :: st) h Q := mj_pure (fun C P V L kk => lv_irem C.1 C.2.1 hd hne (kk _ L)) k
theorem Ex_iushr {x y : Int32} (hd : decode μ.2.1 pc = .ok (.iushr, 1)) (k : Ex S μ (pc + 1) ls (.int ((x.toUInt32 >>> (y.toUInt32 &&& Int32.toUInt32 31)).toInt32) :: st) h Q) : Ex S μ pc ls (.int y :: .int x :: st) h Q := mj_pure (fun C P V L kk => lv_iushr C.1 C.2.1 hd rfl (kk _ L)) k
theorem Ex_ineg {x : Int32} (hd : decode μ.2.1 pc = .ok (.ineg, 1)) (k : Ex S μ (pc + 1) ls (.int (-x) :: st) h Q) : Ex S μ pc ls (.int x :: st) h Q := mj_pure (fun C P V L kk => lv_ineg C.1 C.2.1 hd (kk _ L)) k
theorem Ex_ladd {x y : Int64} (hd : decode μ.2.1 pc = .ok (.ladd, 1)) (k : Ex S μ (pc + 1) ls (.long (x + y) :: st) h Q) : Ex S μ pc ls (.long y :: .long x :: st) h Q := mj_pure (fun C P V L kk => lv_ladd C.1 C.2.1 hd (kk _ L)) k
theorem Ex_lsub {x y : Int64} (hd : decode μ.2.1 pc = .ok (.lsub, 1)) (k : Ex S μ (pc + 1) ls (.long (x - y) :: st) h Q) : Ex S μ pc ls (.long y :: .long x :: st) h Q := mj_pure (fun C P V L kk => lv_lsub C.1 C.2.1 hd (kk _ L)) k
theorem Ex_land {x y : Int64} (hd : decode μ.2.1 pc = .ok (.land, 1)) (k : Ex S μ (pc + 1) ls (.long (x &&& y) :: st) h Q) : Ex S μ pc ls (.long y :: .long x :: st) h Q := mj_pure (fun C P V L kk => lv_land C.1 C.2.1 hd (kk _ L)) k
theorem Ex_lor {x y : Int64} (hd : decode μ.2.1 pc = .ok (.lor, 1)) (k : Ex S μ (pc + 1) ls (.long (x ||| y) :: st) h Q) : Ex S μ pc ls (.long y :: .long x :: st) h Q := mj_pure (fun C P V L kk => lv_lor C.1 C.2.1 hd (kk _ L)) k
theorem Ex_lxor {x y : Int64} (hd : decode μ.2.1 pc = .ok (.lxor, 1)) (k : Ex S μ (pc + 1) ls (.long (x ^^^ y) :: st) h Q) : Ex S μ pc ls (.long y :: .long x :: st) h Q := mj_pure (fun C P V L kk => lv_lxor C.1 C.2.1 hd (kk _ L)) k
theorem Ex_lshl {x : Int64} {y : Int32} (hd : decode μ.2.1 pc = .ok (.lshl, 1)) (k : Ex S μ (pc + 1) ls (.long (x <<< (y.toInt64 &&& 63)) :: st) h Q) : Ex S μ pc ls (.int y :: .long x :: st) h Q := mj_pure (fun C P V L kk => lv_lshl C.1 C.2.1 hd rfl (kk _ L)) k
theorem Ex_lshr {x : Int64} {y : Int32} (hd : decode μ.2.1 pc = .ok (.lshr, 1)) (k : Ex S μ (pc + 1) ls (.long (x >>> (y.toInt64 &&& 63)) :: st) h Q) : Ex S μ pc ls (.int y :: .long x :: st) h Q := mj_pure (fun C P V L kk => lv_lshr C.1 C.2.1 hd rfl (kk _ L)) k
theorem Ex_lushr {x : Int64} {y : Int32} (hd : decode μ.2.1 pc = .ok (.lushr, 1)) (k : Ex S μ (pc + 1) ls (.long ((x.toUInt64 >>> (y.toInt64.toUInt64 &&& Int64.toUInt64 63)).toInt64) :: st) h Q) : Ex S μ pc ls (.int y :: .long x :: st) h Q := mj_pure (fun C P V L kk => lv_lushr C.1 C.2.1 hd rfl (kk _ L)) k
theorem Ex_i2l {x : Int32} (hd : decode μ.2.1 pc = .ok (.i2l, 1)) (k : Ex S μ (pc + 1) ls (.long x.toInt64 :: st) h Q) : Ex S μ pc ls (.int x :: st) h Q := mj_pure (fun C P V L kk => lv_i2l C.1 C.2.1 hd rfl (kk _ L)) k
theorem Ex_l2i {x : Int64} (hd : decode μ.2.1 pc = .ok (.l2i, 1)) (k : Ex S μ (pc + 1) ls (.int x.toInt32 :: st) h Q) : Ex S μ pc ls (.long x :: st) h Q := mj_pure (fun C P V L kk => lv_l2i C.1 C.2.1 hd rfl (kk _ L)) k
theorem Ex_i2s {x : Int32} (hd : decode μ.2.1 pc = .ok (.i2s, 1)) (k : Ex S μ (pc + 1) ls (.int x.toInt16.toInt32 :: st) h Q) : Ex S μ pc ls (.int x :: st) h Q := mj_pure (fun C P V L kk => lv_i2s C.1 C.2.1 hd rfl (kk _ L)) k
theorem Ex_lcmp {x y : Int64} (hd : decode μ.2.1 pc = .ok (.lcmp, 1)) (k : Ex S μ (pc + 1) ls (.int (lg_cmp x y) :: st) h Q) : Ex S μ pc ls (.long y :: .long x :: st) h Q := mj_pure (fun C P V L kk => W.lcmp C.1 C.2.1 hd (kk _ L)) k
theorem Ex_iconst {n : Int} {v : Int32} (hd : decode μ.2.1 pc = .ok (.iconst n, 1)) (hv : Int32.ofInt n = v) (k : Ex S μ (pc + 1) ls (.int v :: st) h Q) : Ex S μ pc ls st h Q := mj_pure (fun C P V L kk => lv_iconst C.1 C.2.1 hd hv (kk _ L)) k
theorem Ex_bipush {n : Int} {v : Int32} (hd : decode μ.2.1 pc = .ok (.bipush n, 2)) (hv : (Int8.ofInt n).toInt32 = v) (k : Ex S μ (pc + 2) ls (.int v :: st) h Q) : Ex S μ pc ls st h Q := mj_pure (fun C P V L kk => lv_bipush C.1 C.2.1 hd hv (kk _ L)) k
theorem Ex_sipush {n : Int} {v : Int32} (hd : decode μ.2.1 pc = .ok (.sipush n, 3)) (hv : (Int16.ofInt n).toInt32 = v) (k : Ex S μ (pc + 3) ls (.int v :: st) h Q) : Ex S μ pc ls st h Q := mj_pure (fun C P V L kk => lv_sipush C.1 C.2.1 hd hv (kk _ L)) k
theorem Ex_lconst {n : Fin 2} {v : Int64} (hd : decode μ.2.1 pc = .ok (.lconst n, 1)) (hv : Int64.ofNat (n : Nat) = v) (k : Ex S μ (pc + 1) ls (.long v :: st) h Q) : Ex S μ pc ls st h Q := mj_pure (fun C P V L kk => lv_lconst C.1 C.2.1 hd hv (kk _ L)) k
theorem Ex_ldc {i : Nat} {v : Int32} (hw : Cond.constant μ.1.cls i v ∈ lw_g) (hd : decode μ.2.1 pc = .ok (.ldc i, 2)) (k : Ex S μ (pc + 2) ls (.int v :: st) h Q) : Ex S μ pc ls st h Q := mj_pure (fun C P V L kk => lv_ldc C.1 C.2.1 C.2.2.2.1 (C.2.2.2.2.2.2.2.1 _ hw) hd (kk _ L)) k
theorem Ex_ldc_w {i : Nat} {v : Int32} (hw : Cond.constant μ.1.cls i v ∈ lw_g) (hd : decode μ.2.1 pc = .ok (.ldc_w i, 3)) (k : Ex S μ (pc + 3) ls (.int v :: st) h Q) : Ex S μ pc ls st h Q := mj_pure (fun C P V L kk => lv_ldcw C.1 C.2.1 C.2.2.2.1 (C.2.2.2.2.2.2.2.1 _ hw) hd (kk _ L)) k
theorem Ex_ldc2_w {i : Nat} {v : Int64} (hw : Cond.constantLong μ.1.cls i v ∈ lw_g) (hd : decode μ.2.1 pc = .ok (.ldc2_w i, 3)) (k : Ex S μ (pc + 3) ls (.long v :: st) h Q) : Ex S μ pc ls st h Q := mj_pure (fun C P V L kk => lv_ldc2 C.1 C.2.1 C.2.2.2.1 (C.2.2.2.2.2.2.2.1 _ hw) hd (kk _ L)) k
theorem Ex_aconst_null (hd : decode μ.2.1 pc = .ok (.aconst_null, 1)) (k : Ex S μ (pc + 1) ls (.null :: st) h Q) : Ex S μ pc ls st h Q := mj_pure (fun C P V L kk => lv_null C.1 C.2.1 hd (kk _ L)) k
theorem Ex_iload_n {j : Fin 4} {x : Int32} (hd : decode μ.2.1 pc = .ok (.iload_n j, 1)) (hl : ls[(j : Nat)]? = some (some (.int x))) (k : Ex S μ (pc + 1) ls (.int x :: st) h Q) : Ex S μ pc ls st h Q := mj_pure (fun C P V L kk => lv_iload_n C.1 C.2.1 hd rfl (L.2.2 _ _ hl) (kk _ L)) k
theorem Ex_iload {j : Nat} {x : Int32} (hd : decode μ.2.1 pc = .ok (.iload j, 2)) (hl : ls[j]? = some (some (.int x))) (k : Ex S μ (pc + 2) ls (.int x :: st) h Q) : Ex S μ pc ls st h Q := mj_pure (fun C P V L kk => lv_iload C.1 C.2.1 hd (L.2.2 _ _ hl) (kk _ L)) k
theorem Ex_lload_n {j : Fin 4} {x : Int64} (hd : decode μ.2.1 pc = .ok (.lload_n j, 1)) (hl : ls[(j : Nat)]? = some (some (.long x))) (k : Ex S μ (pc + 1) ls (.long x :: st) h Q) : Ex S μ pc ls st h Q := mj_pure (fun C P V L kk => lv_lload_n C.1 C.2.1 hd rfl (L.2.2 _ _ hl) (kk _ L)) k
theorem Ex_lload {j : Nat} {x : Int64} (hd : decode μ.2.1 pc = .ok (.lload j, 2)) (hl : ls[j]? = some (some (.long x))) (k : Ex S μ (pc + 2) ls (.long x :: st) h Q) : Ex S μ pc ls st h Q := mj_pure (fun C P V L kk => lv_lload C.1 C.2.1 hd (L.2.2 _ _ hl) (kk _ L)) k
theorem Ex_aload_n {j : Fin 4} {x : Nat} (hd : decode μ.2.1 pc = .ok (.aload_n j, 1)) (hl : ls[(j : Nat)]? = some (some (.ref x))) (k : Ex S μ (pc + 1) ls (.ref x :: st) h Q) : Ex S μ pc ls st h Q := mj_pure (fun C P V L kk => lv_aload_n C.1 C.2.1 hd rfl (L.2.2 _ _ hl) (kk _ L)) k
theorem Ex_aloads_n {j : Fin 4} {x : UInt32} (hd : decode μ.2.1 pc = .ok (.aload_n j, 1)) (hl : ls[(j : Nat)]? = some (some (.float x))) (k : Ex S μ (pc + 1) ls (.float x :: st) h Q) : Ex S μ pc ls st h Q := mj_pure (fun C P V L kk => lv_aload_n C.1 C.2.1 hd rfl (L.2.2 _ _ hl) (kk _ L)) k
theorem Ex_aload0_n {j : Fin 4} (hd : decode μ.2.1 pc = .ok (.aload_n j, 1)) (hl : ls[(j : Nat)]? = some (some .null)) (k : Ex S μ (pc + 1) ls (.null :: st) h Q) : Ex S μ pc ls st h Q := mj_pure (fun C P V L kk => lv_aload_nN C.1 C.2.1 hd rfl (L.2.2 _ _ hl) (kk _ L)) k
theorem Ex_aload {j : Nat} {x : Nat} (hd : decode μ.2.1 pc = .ok (.aload j, 2)) (hl : ls[j]? = some (some (.ref x))) (k : Ex S μ (pc + 2) ls (.ref x :: st) h Q) : Ex S μ pc ls st h Q := mj_pure (fun C P V L kk => lv_aload C.1 C.2.1 hd (L.2.2 _ _ hl) (kk _ L)) k
theorem Ex_aloads {j : Nat} {x : UInt32} (hd : decode μ.2.1 pc = .ok (.aload j, 2)) (hl : ls[j]? = some (some (.float x))) (k : Ex S μ (pc + 2) ls (.float x :: st) h Q) : Ex S μ pc ls st h Q := mj_pure (fun C P V L kk => lv_aload C.1 C.2.1 hd (L.2.2 _ _ hl) (kk _ L)) k
theorem Ex_aload0 {j : Nat} (hd : decode μ.2.1 pc = .ok (.aload j, 2)) (hl : ls[j]? = some (some .null)) (k : Ex S μ (pc + 2) ls (.null :: st) h Q) : Ex S μ pc ls st h Q := mj_pure (fun C P V L kk => lv_aloadN C.1 C.2.1 hd (L.2.2 _ _ hl) (kk _ L)) k
theorem Ex_dup {v : Value} (hc : v.category = 1) (hd : decode μ.2.1 pc = .ok (.dup, 1)) (k : Ex S μ (pc + 1) ls (v :: v :: st) h Q) : Ex S μ pc ls (v :: st) h Q := mj_pure (fun C P V L kk => lv_dup C.1 C.2.1 hd (by rw [mj_v_cat]; exact hc) (kk _ L)) k
theorem Ex_dup2 {v w : Value} (hc : v.category = 1) (hw : w.category = 1) (hd : decode μ.2.1 pc = .ok (.dup2, 1)) (k : Ex S μ (pc + 1) ls (v :: w :: v :: w :: st) h Q) : Ex S μ pc ls (v :: w :: st) h Q := mj_pure (fun C P V L kk => lv_dup2_11 C.1 C.2.1 hd (by rw [mj_v_cat]; exact hc) (by rw [mj_v_cat]; exact hw) (kk _ L)) k
theorem Ex_if_eq {x : Int32} {off : Int} (tgt : Nat) (hd : decode μ.2.1 pc = .ok (.ifCond .eq off, 3)) (ht : (pc : Int) + off = (tgt : Int)) (kt : x = 0 → Ex S μ tgt ls st h Q) (kf : ¬ (x = 0) → Ex S μ (pc + 3) ls st h Q) : Ex S μ pc ls (.int x :: st) h Q := by
  by_cases q : x = 0
  · exact mj_pure (fun C P V L kk => lv_if_eq C.1 C.2.1 hd ht (fun _ => kk _ L) (fun z => absurd q z)) (kt q)
  · exact mj_pure (fun C P V L kk => lv_if_eq C.1 C.2.1 hd ht (fun z => absurd z q) (fun _ => kk _ L)) (kf q)
theorem Ex_icmp_eq {x y : Int32} {off : Int} (tgt : Nat) (hd : decode μ.2.1 pc = .ok (.if_icmp .eq off, 3)) (ht : (pc : Int) + off = (tgt : Int)) (kt : x = y → Ex S μ tgt ls st h Q) (kf : ¬ (x = y) → Ex S μ (pc + 3) ls st h Q) : Ex S μ pc ls (.int y :: .int x :: st) h Q := by
  by_cases q : x = y
  · exact mj_pure (fun C P V L kk => lv_icmp_eq C.1 C.2.1 hd ht (fun _ => kk _ L) (fun z => absurd q z)) (kt q)
  · exact mj_pure (fun C P V L kk => lv_icmp_eq C.1 C.2.1 hd ht (fun z => absurd z q) (fun _ => kk _ L)) (kf q)
theorem Ex_if_ne {x : Int32} {off : Int} (tgt : Nat) (hd : decode μ.2.1 pc = .ok (.ifCond .ne off, 3)) (ht : (pc : Int) + off = (tgt : Int)) (kt : ¬ x = 0 → Ex S μ tgt ls st h Q) (kf : x = 0 → Ex S μ (pc + 3) ls st h Q) : Ex S μ pc ls (.int x :: st) h Q := by
  by_cases q : x = 0
  · exact mj_pure (fun C P V L kk => lv_if_ne C.1 C.2.1 hd ht (fun z => absurd q z) (fun _ => kk _ L)) (kf q)
  · exact mj_pure (fun C P V L kk => lv_if_ne C.1 C.2.1 hd ht (fun _ => kk _ L) (fun z => absurd z q)) (kt q)
theorem Ex_icmp_ne {x y : Int32} {off : Int} (tgt : Nat) (hd : decode μ.2.1 pc = .ok (.if_icmp .ne off, 3)) (ht : (pc : Int) + off = (tgt : Int)) (kt : ¬ x = y → Ex S μ tgt ls st h Q) (kf : x = y → Ex S μ (pc + 3) ls st h Q) : Ex S μ pc ls (.int y :: .int x :: st) h Q := by
  by_cases q : x = y
  · exact mj_pure (fun C P V L kk => lv_icmp_ne C.1 C.2.1 hd ht (fun z => absurd q z) (fun _ => kk _ L)) (kf q)
  · exact mj_pure (fun C P V L kk => lv_icmp_ne C.1 C.2.1 hd ht (fun _ => kk _ L) (fun z => absurd z q)) (kt q)
theorem Ex_if_lt {x : Int32} {off : Int} (tgt : Nat) (hd : decode μ.2.1 pc = .ok (.ifCond .lt off, 3)) (ht : (pc : Int) + off = (tgt : Int)) (kt : x < 0 → Ex S μ tgt ls st h Q) (kf : ¬ (x < 0) → Ex S μ (pc + 3) ls st h Q) : Ex S μ pc ls (.int x :: st) h Q := by
  by_cases q : x < 0
  · exact mj_pure (fun C P V L kk => lv_if_lt C.1 C.2.1 hd ht (fun _ => kk _ L) (fun z => absurd q z)) (kt q)
  · exact mj_pure (fun C P V L kk => lv_if_lt C.1 C.2.1 hd ht (fun z => absurd z q) (fun _ => kk _ L)) (kf q)
theorem Ex_icmp_lt {x y : Int32} {off : Int} (tgt : Nat) (hd : decode μ.2.1 pc = .ok (.if_icmp .lt off, 3)) (ht : (pc : Int) + off = (tgt : Int)) (kt : x < y → Ex S μ tgt ls st h Q) (kf : ¬ (x < y) → Ex S μ (pc + 3) ls st h Q) : Ex S μ pc ls (.int y :: .int x :: st) h Q := by
  by_cases q : x < y
  · exact mj_pure (fun C P V L kk => lv_icmp_lt C.1 C.2.1 hd ht (fun _ => kk _ L) (fun z => absurd q z)) (kt q)
  · exact mj_pure (fun C P V L kk => lv_icmp_lt C.1 C.2.1 hd ht (fun z => absurd z q) (fun _ => kk _ L)) (kf q)
theorem Ex_if_ge {x : Int32} {off : Int} (tgt : Nat) (hd : decode μ.2.1 pc = .ok (.ifCond .ge off, 3)) (ht : (pc : Int) + off = (tgt : Int)) (kt : 0 ≤ x → Ex S μ tgt ls st h Q) (kf : ¬ (0 ≤ x) → Ex S μ (pc + 3) ls st h Q) : Ex S μ pc ls (.int x :: st) h Q := by
  by_cases q : 0 ≤ x
  · exact mj_pure (fun C P V L kk => lv_if_ge C.1 C.2.1 hd ht (fun _ => kk _ L) (fun z => absurd q z)) (kt q)
  · exact mj_pure (fun C P V L kk => lv_if_ge C.1 C.2.1 hd ht (fun z => absurd z q) (fun _ => kk _ L)) (kf q)
theorem Ex_icmp_ge {x y : Int32} {off : Int} (tgt : Nat) (hd : decode μ.2.1 pc = .ok (.if_icmp .ge off, 3)) (ht : (pc : Int) + off = (tgt : Int)) (kt : y ≤ x → Ex S μ tgt ls st h Q) (kf : ¬ (y ≤ x) → Ex S μ (pc + 3) ls st h Q) : Ex S μ pc ls (.int y :: .int x :: st) h Q := by
  by_cases q : y ≤ x
  · exact mj_pure (fun C P V L kk => lv_icmp_ge C.1 C.2.1 hd ht (fun _ => kk _ L) (fun z => absurd q z)) (kt q)
  · exact mj_pure (fun C P V L kk => lv_icmp_ge C.1 C.2.1 hd ht (fun z => absurd z q) (fun _ => kk _ L)) (kf q)
theorem Ex_if_gt {x : Int32} {off : Int} (tgt : Nat) (hd : decode μ.2.1 pc = .ok (.ifCond .gt off, 3)) (ht : (pc : Int) + off = (tgt : Int)) (kt : 0 < x → Ex S μ tgt ls st h Q) (kf : ¬ (0 < x) → Ex S μ (pc + 3) ls st h Q) : Ex S μ pc ls (.int x :: st) h Q := by
  by_cases q : 0 < x
  · exact mj_pure (fun C P V L kk => lv_if_gt C.1 C.2.1 hd ht (fun _ => kk _ L) (fun z => absurd q z)) (kt q)
  · exact mj_pure (fun C P V L kk => lv_if_gt C.1 C.2.1 hd ht (fun z => absurd z q) (fun _ => kk _ L)) (kf q)
theorem Ex_icmp_gt {x y : Int32} {off : Int} (tgt : Nat) (hd : decode μ.2.1 pc = .ok (.if_icmp .gt off, 3)) (ht : (pc : Int) + off = (tgt : Int)) (kt : y < x → Ex S μ tgt ls st h Q) (kf : ¬ (y < x) → Ex S μ (pc + 3) ls st h Q) : Ex S μ pc ls (.int y :: .int x :: st) h Q := by
  by_cases q : y < x
  · exact mj_pure (fun C P V L kk => lv_icmp_gt C.1 C.2.1 hd ht (fun _ => kk _ L) (fun z => absurd q z)) (kt q)
  · exact mj_pure (fun C P V L kk => lv_icmp_gt C.1 C.2.1 hd ht (fun z => absurd z q) (fun _ => kk _ L)) (kf q)
theorem Ex_if_le {x : Int32} {off : Int} (tgt : Nat) (hd : decode μ.2.1 pc = .ok (.ifCond .le off, 3)) (ht : (pc : Int) + off = (tgt : Int)) (kt : x ≤ 0 → Ex S μ tgt ls st h Q) (kf : ¬ (x ≤ 0) → Ex S μ (pc + 3) ls st h Q) : Ex S μ pc ls (.int x :: st) h Q := by
  by_cases q : x ≤ 0
  · exact mj_pure (fun C P V L kk => lv_if_le C.1 C.2.1 hd ht (fun _ => kk _ L) (fun z => absurd q z)) (kt q)
  · exact mj_pure (fun C P V L kk => lv_if_le C.1 C.2.1 hd ht (fun z => absurd z q) (fun _ => kk _ L)) (kf q)
theorem Ex_icmp_le {x y : Int32} {off : Int} (tgt : Nat) (hd : decode μ.2.1 pc = .ok (.if_icmp .le off, 3)) (ht : (pc : Int) + off = (tgt : Int)) (kt : x ≤ y → Ex S μ tgt ls st h Q) (kf : ¬ (x ≤ y) → Ex S μ (pc + 3) ls st h Q) : Ex S μ pc ls (.int y :: .int x :: st) h Q := by
  by_cases q : x ≤ y
  · exact mj_pure (fun C P V L kk => lv_icmp_le C.1 C.2.1 hd ht (fun _ => kk _ L) (fun z => absurd q z)) (kt q)
  · exact mj_pure (fun C P V L kk => lv_icmp_le C.1 C.2.1 hd ht (fun z => absurd z q) (fun _ => kk _ L)) (kf q)
theorem Ex_goto {off : Int} (tgt : Nat) (hd : decode μ.2.1 pc = .ok (.goto off, 3)) (ht : (pc : Int) + off = (tgt : Int)) (k : Ex S μ tgt ls st h Q) : Ex S μ pc ls st h Q := mj_pure (fun C P V L kk => lv_goto C.1 C.2.1 hd ht (kk _ L)) k
theorem Ex_ifnull {x : Nat} {off : Int} (hd : decode μ.2.1 pc = .ok (.ifnull off, 3)) (k : Ex S μ (pc + 3) ls st h Q) : Ex S μ pc ls (.ref x :: st) h Q := mj_pure (fun C P V L kk => lv_ifnull C.1 C.2.1 hd (kk _ L)) k
theorem Ex_ifnull0 {off : Int} (tgt : Nat) (hd : decode μ.2.1 pc = .ok (.ifnull off, 3)) (ht : (pc : Int) + off = (tgt : Int)) (k : Ex S μ tgt ls st h Q) : Ex S μ pc ls (.null :: st) h Q := mj_pure (fun C P V L kk => lv_ifnullN C.1 C.2.1 hd ht (kk _ L)) k
theorem Ex_ifnonnull {x : Nat} {off : Int} (tgt : Nat) (hd : decode μ.2.1 pc = .ok (.ifnonnull off, 3)) (ht : (pc : Int) + off = (tgt : Int)) (k : Ex S μ tgt ls st h Q) : Ex S μ pc ls (.ref x :: st) h Q := mj_pure (fun C P V L kk => lv_ifnonnull C.1 C.2.1 hd ht (kk _ L)) k
theorem Ex_ifnonnull0 {off : Int} (hd : decode μ.2.1 pc = .ok (.ifnonnull off, 3)) (k : Ex S μ (pc + 3) ls st h Q) : Ex S μ pc ls (.null :: st) h Q := mj_pure (fun C P V L kk => lv_ifnonnullN C.1 C.2.1 hd (kk _ L)) k
theorem Ex_swIn {dflt lo hi : Int} {offs : Array Int} {len : Nat} {x : Int32} {off : Int} (tgt : Nat) (hd : decode μ.2.1 pc = .ok (.tableswitch dflt lo hi offs, len)) (h1 : ¬ x.toInt < lo) (h2 : ¬ hi < x.toInt) (ho : offs[(x.toInt - lo).toNat]? = some off) (ht : (pc : Int) + off = (tgt : Int)) (k : Ex S μ tgt ls st h Q) : Ex S μ pc ls (.int x :: st) h Q := mj_pure (fun C P V L kk => lv_tableIn C.1 C.2.1 hd h1 h2 ho ht (kk _ L)) k
theorem Ex_swOut {dflt lo hi : Int} {offs : Array Int} {len : Nat} {x : Int32} (tgt : Nat) (hd : decode μ.2.1 pc = .ok (.tableswitch dflt lo hi offs, len)) (hz : x.toInt < lo ∨ hi < x.toInt) (ht : (pc : Int) + dflt = (tgt : Int)) (k : Ex S μ tgt ls st h Q) : Ex S μ pc ls (.int x :: st) h Q := mj_pure (fun C P V L kk => lv_tableOut C.1 C.2.1 hd hz ht (kk _ L)) k
theorem Ex_istore_n {j : Fin 4} {x : Int32} (ls' : mj_L) (hd : decode μ.2.1 pc = .ok (.istore_n j, 1)) (hn : (j : Nat) < ls.length) (he : mj_st1 ls (j : Nat) (.int x) = ls') (k : Ex S μ (pc + 1) ls' st h Q) : Ex S μ pc ls (.int x :: st) h Q := by
  subst he
  exact mj_pure (fun C P V L kk => lv_istore_n C.1 C.2.1 hd rfl (mj_l_has L) hn rfl (fun rls' hl => kk rls' (mj_l_st1 (v := .int x) hl hn))) k
theorem Ex_istore {j : Nat} {x : Int32} (ls' : mj_L) (hd : decode μ.2.1 pc = .ok (.istore j, 2)) (hn : j < ls.length) (he : mj_st1 ls j (.int x) = ls') (k : Ex S μ (pc + 2) ls' st h Q) : Ex S μ pc ls (.int x :: st) h Q := by
  subst he
  exact mj_pure (fun C P V L kk => lv_istore C.1 C.2.1 hd (mj_l_has L) hn rfl (fun rls' hl => kk rls' (mj_l_st1 (v := .int x) hl hn))) k
theorem Ex_lstore_n {j : Fin 4} {x : Int64} (ls' : mj_L) (hd : decode μ.2.1 pc = .ok (.lstore_n j, 1)) (hn : (j : Nat) + 1 < ls.length) (he : mj_st2 ls (j : Nat) (.long x) = ls') (k : Ex S μ (pc + 1) ls' st h Q) : Ex S μ pc ls (.long x :: st) h Q := by
  subst he
  exact mj_pure (fun C P V L kk => lv_lstore_n C.1 C.2.1 hd rfl (mj_l_has L) hn rfl (fun rls' hl => kk rls' (mj_l_st2 (v := .long x) hl hn))) k
theorem Ex_lstore {j : Nat} {x : Int64} (ls' : mj_L) (hd : decode μ.2.1 pc = .ok (.lstore j, 2)) (hn : j + 1 < ls.length) (he : mj_st2 ls j (.long x) = ls') (k : Ex S μ (pc + 2) ls' st h Q) : Ex S μ pc ls (.long x :: st) h Q := by
  subst he
  exact mj_pure (fun C P V L kk => lv_lstore C.1 C.2.1 hd (mj_l_has L) hn rfl (fun rls' hl => kk rls' (mj_l_st2 (v := .long x) hl hn))) k
theorem Ex_astore_n {j : Fin 4} {x : Nat} (ls' : mj_L) (hd : decode μ.2.1 pc = .ok (.astore_n j, 1)) (hn : (j : Nat) < ls.length) (he : mj_st1 ls (j : Nat) (.ref x) = ls') (k : Ex S μ (pc + 1) ls' st h Q) : Ex S μ pc ls (.ref x :: st) h Q := by
  subst he
  exact mj_pure (fun C P V L kk => lv_astore_n C.1 C.2.1 hd rfl (mj_l_has L) hn rfl (fun rls' hl => kk rls' (mj_l_st1 (v := .ref x) hl hn))) k
theorem Ex_astore0_n {j : Fin 4} (ls' : mj_L) (hd : decode μ.2.1 pc = .ok (.astore_n j, 1)) (hn : (j : Nat) < ls.length) (he : mj_st1 ls (j : Nat) .null = ls') (k : Ex S μ (pc + 1) ls' st h Q) : Ex S μ pc ls (.null :: st) h Q := by
  subst he
  exact mj_pure (fun C P V L kk => lv_astore_nN C.1 C.2.1 hd rfl (mj_l_has L) hn rfl (fun rls' hl => kk rls' (mj_l_st1 (v := .null) hl hn))) k
theorem Ex_astore {j : Nat} {x : Nat} (ls' : mj_L) (hd : decode μ.2.1 pc = .ok (.astore j, 2)) (hn : j < ls.length) (he : mj_st1 ls j (.ref x) = ls') (k : Ex S μ (pc + 2) ls' st h Q) : Ex S μ pc ls (.ref x :: st) h Q := by
  subst he
  exact mj_pure (fun C P V L kk => lv_astore C.1 C.2.1 hd (mj_l_has L) hn rfl (fun rls' hl => kk rls' (mj_l_st1 (v := .ref x) hl hn))) k
theorem Ex_astore0 {j : Nat} (ls' : mj_L) (hd : decode μ.2.1 pc = .ok (.astore j, 2)) (hn : j < ls.length) (he : mj_st1 ls j .null = ls') (k : Ex S μ (pc + 2) ls' st h Q) : Ex S μ pc ls (.null :: st) h Q := by
  subst he
  exact mj_pure (fun C P V L kk => lv_astoreN C.1 C.2.1 hd (mj_l_has L) hn rfl (fun rls' hl => kk rls' (mj_l_st1 (v := .null) hl hn))) k
theorem Ex_iinc {j : Nat} {n : Int} {x : Int32} (c : Int32) (ls' : mj_L) (hd : decode μ.2.1 pc = .ok (.iinc j n, 3)) (hl : ls[j]? = some (some (.int x))) (hc : Int32.ofInt n = c) (he : mj_st1 ls j (.int (x + c)) = ls') (k : Ex S μ (pc + 3) ls' st h Q) : Ex S μ pc ls st h Q := by
  subst he
  subst hc
  have hn : j < ls.length := (List.getElem?_eq_some_iff.mp hl).1
  refine mj_pure (fun C P V L kk => ?_) k
  obtain ⟨i, hi⟩ := List.getElem?_of_mem (mj_lv_mem hl)
  exact lv_iinc C.1 C.2.1 hd (mj_l_has L) hi rfl hn rfl (fun rls' hl' => kk rls' (mj_l_st1 (v := .int (x + Int32.ofInt n)) hl' hn))
theorem Ex_forget {ls' : mj_L} (hs : mj_sub ls' ls) (k : Ex S μ pc ls' st h Q) : Ex S μ pc ls st h Q := by
  obtain ⟨r, h', q, g1, g2, g⟩ := k
  exact ⟨r, h', q, g1, g2, fun p l e R s m args below meth c b base D cA C n0 z0 Q hn hz hc hl E H locs rls P Sv Lr => g p l e R s m args below meth c b base D cA C n0 z0 Q hn hz hc hl E H locs rls P Sv (mj_l_sub hs Lr)⟩
theorem Ex_mono {Q' : Option Value → mj_H → Prop} (k : Ex S μ pc ls st h Q') (hq : ∀ r h', Q' r h' → Q r h') : Ex S μ pc ls st h Q := by
  obtain ⟨r, h', q, g⟩ := k
  exact ⟨r, h', hq r h' q, g⟩
end MJR
end
section
/-! Rows of the small machine that read and write cells. -/
section MJP
variable {base : Nat} {D : va_G} {cA : Nat → ClassId} {h h1 : mj_H} {H H1 : Heap}
theorem mj_wrP {a : Nat} {t : Nat × Nat} (P : mj_P base D cA h H) (ht : mT h a = some t) (hT : h1.1 = h.1) (ho : ∀ k, k ≠ a → mI h1 k = mI h k ∧ mL h1 k = mL h k ∧ mR h1 k = mR h k)
    (he : va_at D mj_classes (base + a, mj_e base cA t (mI h1 a) (mL h1 a) (mR h1 a)) H1) (z : H1.size = H.size) (oq : ∀ q, q ≠ base + a → H1[q]? = H[q]?) : mj_P base D cA h1 H1 := by
  refine ⟨?_, by rw [z, P.2]; unfold mN; rw [hT]⟩
  rw [← mj_w_set ht hT rfl ho]
  exact P.1.set mj_w_D (mj_w_get ht) he oq
theorem mj_mkP {t n : Nat} (P : mj_P base D cA h H) (he : va_at D mj_classes (base + mN h, mj_e base cA (t, n) (fun _ => 0) (fun _ => 0) (fun _ => none)) H1) (z : H1.size = H.size + 1) (oq : ∀ q, q < H.size → H1[q]? = H[q]?) : mj_P base D cA (mNew h t n) H1 := by
  refine ⟨?_, by rw [z, P.2, mN_new]; omega⟩
  rw [mj_w_new]
  refine (P.1.kept (fun k x hx => oq x.1 ((P.1 k x hx).lt))).app (fun k x hx => ?_)
  have hz : k < 1 := (List.getElem?_eq_some_iff.mp hx).1
  rw [show k = 0 by omega] at hx
  cases hx
  exact he
theorem mj_atA {a n : Nat} {f : Nat → Int32} (P : mj_P base D cA h H) (ht : mT h a = some (0, n)) : (mj_w base cA h)[a]? = some (base + a, .inl (cA 0, n, .inl (mI h a))) := mj_w_get ht
end MJP
def va_upd_id (f : Nat → Int32) (k : Nat) (x : Int32) : va_up f k x = upd f k x := rfl
theorem mj_oI {h : mj_H} {a : Nat} {f : Nat → Int32} : ∀ k, k ≠ a → mI (wA h a f) k = mI h k ∧ mL (wA h a f) k = mL h k ∧ mR (wA h a f) k = mR h k := fun k hk => ⟨by simp [mI, wA, va_up, hk], rfl, rfl⟩
theorem mj_oL {h : mj_H} {a i : Nat} {v : Int64} : ∀ k, k ≠ a → mI (wL h a i v) k = mI h k ∧ mL (wL h a i v) k = mL h k ∧ mR (wL h a i v) k = mR h k := fun k hk => ⟨rfl, by simp [mL, wL, va_up, hk], rfl⟩
theorem mj_oR {h : mj_H} {a i : Nat} {v : Option Nat} : ∀ k, k ≠ a → mI (wR h a i v) k = mI h k ∧ mL (wR h a i v) k = mL h k ∧ mR (wR h a i v) k = mR h k := fun k hk => ⟨rfl, rfl, by simp [mR, wR, va_up, hk]⟩
theorem mj_sI (h : mj_H) (a : Nat) (f : Nat → Int32) : mI (wA h a f) a = f := by simp [mI, wA, va_up]
theorem mj_sL (h : mj_H) (a i : Nat) (v : Int64) : mL (wL h a i v) a = va_up (mL h a) i v := by simp [mL, wL, va_up]
theorem mj_sR (h : mj_H) (a i : Nat) (v : Option Nat) : mR (wR h a i v) a = va_up (mR h a) i v := by simp [mR, wR, va_up]
theorem mj_lt {i : Int32} {n : Nat} (h : vp_in i n) : i.toNatClampNeg < n := Nat.not_le.mp fun q => h (Or.inr q)
section MJA
variable {S : mj_S} {μ : mj_Y} {pc : Nat} {ls : mj_L} {st : List Value} {h : mj_H} {Q : Option Value → mj_H → Prop} {a n : Nat} {i : Int32}
theorem Ex_iaload (hd : decode μ.2.1 pc = .ok (.iaload, 1)) (ht : mT h a = some (0, n)) (hi : vp_in i n) (k : Ex S μ (pc + 1) ls (.int (mI h a i.toNatClampNeg) :: st) h Q) : Ex S μ pc ls (.int i :: .ref a :: st) h Q :=
  mj_pure (fun C P V L kk => va_iald C.1 C.2.1 C.2.2.2.2.2.2.2.2.2.1 P.1 a 0 (mj_w_get ht) rfl hi hd (kk _ L)) k
theorem Ex_baload (hd : decode μ.2.1 pc = .ok (.baload, 1)) (ht : mT h a = some (2, n)) (hi : vp_in i n) (k : Ex S μ (pc + 1) ls (.int (mI h a i.toNatClampNeg) :: st) h Q) : Ex S μ pc ls (.int i :: .ref a :: st) h Q :=
  mj_pure (fun C P V L kk => va_zald C.1 C.2.1 C.2.2.2.2.2.2.2.2.2.1 P.1 a 2 (mj_w_get ht) rfl hi hd (kk _ L)) k
theorem Ex_laload (hd : decode μ.2.1 pc = .ok (.laload, 1)) (ht : mT h a = some (1, n)) (hi : vp_in i n) (k : Ex S μ (pc + 1) ls (.long (mL h a i.toNatClampNeg) :: st) h Q) : Ex S μ pc ls (.int i :: .ref a :: st) h Q :=
  mj_pure (fun C P V L kk => va_lald C.1 C.2.1 C.2.2.2.2.2.2.2.2.2.1 P.1 a 1 (mj_w_get ht) rfl hi hd (kk _ L)) k
theorem mj_rfv (b base : Nat) (r : Option Nat) : va_rf (r.map (fun a => base + a)) = mj_v b base (va_rf r) := by cases r <;> rfl
theorem Ex_aaload {t : Nat} (hd : decode μ.2.1 pc = .ok (.aaload, 1)) (ht : mT h a = some (t, n)) (htt : 3 ≤ t ∧ t ≤ 6) (hi : vp_in i n) {v : Value} (hv : va_rf (mR h a i.toNatClampNeg) = v) (k : Ex S μ (pc + 1) ls (v :: st) h Q) : Ex S μ pc ls (.int i :: .ref a :: st) h Q := by
  subst hv
  refine mj_pure (fun {p l e R s m args below meth c b base D cA H locs cells slots Q rls} C P V L kk => ?_) k
  have hlt := mj_lt hi
  have hK : va_K D mj_classes (mj_tys cA) s := C.2.2.2.2.2.2.2.2.2.1
  have e : (mj_w base cA h)[a]? = some (base + a, .inl (cA t, n, .inr (.inr (.inr (.inr (mj_q base (mR h a))))))) := by
    rw [mj_w_get ht]
    rcases (show t = 3 ∨ t = 4 ∨ t = 5 ∨ t = 6 by omega) with rfl | rfl | rfl | rfl <;> rfl
  have hty : ∃ ty : FieldType, (mj_tys cA)[t]? = some (cA t, ty) ∧ ty.isReference = true := by
    rcases (show t = 3 ∨ t = 4 ∨ t = 5 ∨ t = 6 by omega) with rfl | rfl | rfl | rfl <;> exact ⟨_, rfl, rfl⟩
  obtain ⟨ty, h1, h2⟩ := hty
  refine W.aald (v := mj_v b base (va_rf (mR h a i.toNatClampNeg))) (ty := ty) C.1 C.2.1 (P.1 a _ e) ((hK.2 t _ h1).1 n (fun j => va_rf (mj_q base (mR h a) j))) h2 (fun q => by cases q) (by show ¬ (i < 0 ∨ (arrV _ _ _).slots.size ≤ _); rw [arrV_size]; exact hi) ?_ rfl rfl hd (kk _ L)
  show (arrV _ _ _).slots[_]? = _
  rw [arrV_read _ _ hlt, ← mj_rfv b base]
  rfl
theorem Ex_arraylength {t : Nat} (hd : decode μ.2.1 pc = .ok (.arraylength, 1)) (ht : mT h a = some (t, n)) (htt : t ≤ 6) (k : Ex S μ (pc + 1) ls (.int (Int32.ofNat n) :: st) h Q) : Ex S μ pc ls (.ref a :: st) h Q := by
  refine mj_pure (fun {p l e R s m args below meth c b base D cA H locs cells slots Q rls} C P V L kk => ?_) k
  have hK : va_K D mj_classes (mj_tys cA) s := C.2.2.2.2.2.2.2.2.2.1
  rcases (show t = 0 ∨ t = 1 ∨ t = 2 ∨ t = 3 ∨ t = 4 ∨ t = 5 ∨ t = 6 by omega) with rfl | rfl | rfl | rfl | rfl | rfl | rfl
  · exact va_alen C.1 C.2.1 hK P.1 a 0 (mj_w_get ht) rfl rfl hd (kk _ L)
  · exact va_alen C.1 C.2.1 hK P.1 a 1 (mj_w_get ht) rfl rfl hd (kk _ L)
  · exact va_alen C.1 C.2.1 hK P.1 a 2 (mj_w_get ht) rfl rfl hd (kk _ L)
  · exact va_alen C.1 C.2.1 hK P.1 a 3 (mj_w_get ht) rfl rfl hd (kk _ L)
  · exact va_alen C.1 C.2.1 hK P.1 a 4 (mj_w_get ht) rfl rfl hd (kk _ L)
  · exact va_alen C.1 C.2.1 hK P.1 a 5 (mj_w_get ht) rfl rfl hd (kk _ L)
  · exact va_alen C.1 C.2.1 hK P.1 a 6 (mj_w_get ht) rfl rfl hd (kk _ L)
theorem Ex_sload {f : UInt32} (hμ : μ.1 = yL_law) (hd : decode μ.2.1 pc = .ok (.iaload, 1)) (hi : vp_in i S.1) (k : Ex S μ (pc + 1) ls (.int (S.2 i.toNatClampNeg) :: st) h Q) : Ex S μ pc ls (.int i :: .float f :: st) h Q :=
  mj_pure (fun {p l e R s m args below meth c b base D cA H locs cells slots Q rls} C P V L kk => by
    have hX := C.2.2.2.2.2.2.2.2.2.2.2.2.2 hμ
    have hb := C.2.2.2.2.2.2.2.2.2.2.2.2.1
    exact va_sld C.1 C.2.1 hX.1 (Nat.lt_of_lt_of_le hX.2 hb) (Nat.not_le.mpr hX.2) V hi hd (kk _ L)) k
theorem Ex_slen {f : UInt32} (hμ : μ.1 = yL_law) (hd : decode μ.2.1 pc = .ok (.arraylength, 1)) (k : Ex S μ (pc + 1) ls (.int (Int32.ofNat S.1) :: st) h Q) : Ex S μ pc ls (.float f :: st) h Q :=
  mj_pure (fun {p l e R s m args below meth c b base D cA H locs cells slots Q rls} C P V L kk => by
    have hX := C.2.2.2.2.2.2.2.2.2.2.2.2.2 hμ
    have hb := C.2.2.2.2.2.2.2.2.2.2.2.2.1
    exact va_slen C.1 C.2.1 hX.1 (Nat.lt_of_lt_of_le hX.2 hb) (Nat.not_le.mpr hX.2) V hd (kk _ L)) k
theorem Ex_iastore {x : Int32} (hd : decode μ.2.1 pc = .ok (.iastore, 1)) (ht : mT h a = some (0, n)) (hi : vp_in i n) (k : Ex S μ (pc + 1) ls st (wI h a i.toNatClampNeg x) Q) : Ex S μ pc ls (.int x :: .int i :: .ref a :: st) h Q := by
  refine mj_wr (h1 := wI h a i.toNatClampNeg x) rfl (fun {p l e R s m args below meth c b base D cA H locs cells slots Q rls} C P V L kk => ?_) k
  have hK : va_K D mj_classes (mj_tys cA) s := C.2.2.2.2.2.2.2.2.2.1
  refine W.iast (x := x) C.1 C.2.1 (P.1 a _ (mj_w_get ht)) ((hK.2 0 _ rfl).1 n (fun j => .int (mI h a j))) (fun q => by cases q) (by show ¬ (i < 0 ∨ (arrV _ _ _).slots.size ≤ _); rw [arrV_size]; exact hi) rfl rfl hd fun H1 e z oq => ?_
  refine kk H1 _ (mj_wrP P ht rfl mj_oI ?_ z oq) (V.put z oq (by show base ≤ base + a; omega))
  show H1[base + a]? = some (vp_cell _ _)
  rw [e]
  show some ((vp_cell (cA 0) (n, Sum.inl (mI h a))).setSlot _ _) = some (vp_cell (cA 0) (n, Sum.inl (mI (wI h a i.toNatClampNeg x) a)))
  rw [show mI (wI h a i.toNatClampNeg x) a = va_up (mI h a) i.toNatClampNeg x from mj_sI _ _ _, vp_cell_i, vp_cell_i, arrV_store]
  congr 2
  funext q
  by_cases hq : q = i.toNatClampNeg <;> simp [updV, va_up, hq]
theorem Ex_bastore {x : Int32} (hd : decode μ.2.1 pc = .ok (.bastore, 1)) (ht : mT h a = some (2, n)) (hi : vp_in i n) (hx : x = 0 ∨ x = 1) (k : Ex S μ (pc + 1) ls st (wI h a i.toNatClampNeg x) Q) : Ex S μ pc ls (.int x :: .int i :: .ref a :: st) h Q := by
  refine mj_wr (h1 := wI h a i.toNatClampNeg x) rfl (fun {p l e R s m args below meth c b base D cA H locs cells slots Q rls} C P V L kk => ?_) k
  have hK : va_K D mj_classes (mj_tys cA) s := C.2.2.2.2.2.2.2.2.2.1
  refine W.zast (x := x) C.1 C.2.1 (P.1 a _ (mj_w_get ht)) ((hK.2 2 _ rfl).1 n (fun j => .int (mI h a j))) (fun q => by cases q) (by show ¬ (i < 0 ∨ (arrV _ _ _).slots.size ≤ _); rw [arrV_size]; exact hi) rfl rfl hd fun H1 e z oq => ?_
  refine kk H1 _ (mj_wrP P ht rfl mj_oI ?_ z oq) (V.put z oq (by show base ≤ base + a; omega))
  show H1[base + a]? = some (vp_cell _ _)
  rw [e]
  have hnx : narrow .boolean (.int x) = .int x := by rcases hx with rfl | rfl <;> rfl
  show some ((vp_cell (cA 2) (n, Sum.inl (mI h a))).setSlot _ _) = some (vp_cell (cA 2) (n, Sum.inl (mI (wI h a i.toNatClampNeg x) a)))
  rw [show mI (wI h a i.toNatClampNeg x) a = va_up (mI h a) i.toNatClampNeg x from mj_sI _ _ _, vp_cell_i, vp_cell_i, arrV_store, hnx]
  congr 2
  funext q
  by_cases hq : q = i.toNatClampNeg <;> simp [updV, va_up, hq]
theorem Ex_lastore {x : Int64} (hd : decode μ.2.1 pc = .ok (.lastore, 1)) (ht : mT h a = some (1, n)) (hi : vp_in i n) (k : Ex S μ (pc + 1) ls st (wL h a i.toNatClampNeg x) Q) : Ex S μ pc ls (.long x :: .int i :: .ref a :: st) h Q := by
  refine mj_wr (h1 := wL h a i.toNatClampNeg x) rfl (fun {p l e R s m args below meth c b base D cA H locs cells slots Q rls} C P V L kk => ?_) k
  have hK : va_K D mj_classes (mj_tys cA) s := C.2.2.2.2.2.2.2.2.2.1
  refine W.last (x := x) C.1 C.2.1 (P.1 a _ (mj_w_get ht)) ((hK.2 1 _ rfl).1 n (fun j => .long (mL h a j))) (fun q => by cases q) (by show ¬ (i < 0 ∨ (arrV _ _ _).slots.size ≤ _); rw [arrV_size]; exact hi) rfl rfl hd fun H1 e z oq => ?_
  refine kk H1 _ (mj_wrP P ht rfl mj_oL ?_ z oq) (V.put z oq (by show base ≤ base + a; omega))
  show H1[base + a]? = some (vp_cell _ _)
  rw [e]
  show some ((vp_cell (cA 1) (n, Sum.inr (Sum.inl (mL h a)))).setSlot _ _) = some (vp_cell (cA 1) (n, Sum.inr (Sum.inl (mL (wL h a i.toNatClampNeg x) a))))
  rw [mj_sL, vp_cell_l, vp_cell_l, arrV_store]
  congr 2
  funext q
  by_cases hq : q = i.toNatClampNeg <;> simp [updV, va_up, hq]
/-- an object into an array of its class -/
theorem Ex_aastore {t ci v : Nat} {r : vw_C} {w : Nat} (hd : decode μ.2.1 pc = .ok (.aastore, 1)) (ht : mT h a = some (t, n)) (htt : 4 ≤ t ∧ t ≤ 6) (hv : mT h v = some (10 + ci, w)) (hci : (t = 4 ∧ ci = 6) ∨ (t = 5 ∧ ci = 8) ∨ (t = 6 ∧ ci = 3)) (hi : vp_in i n) (k : Ex S μ (pc + 1) ls st (wR h a i.toNatClampNeg (some v)) Q) : Ex S μ pc ls (.ref v :: .int i :: .ref a :: st) h Q := by
  refine mj_wr (h1 := wR h a i.toNatClampNeg (some v)) rfl (fun {p l e R s m args below meth c b base D cA H locs cells slots Q rls} C P V L kk => ?_) k
  have hK : va_K D mj_classes (mj_tys cA) s := C.2.2.2.2.2.2.2.2.2.1
  have hlt := mj_lt hi
  have h0 : ¬ i < 0 := fun q => hi (Or.inl q)
  have e : (mj_w base cA h)[a]? = some (base + a, .inl (cA t, n, .inr (.inr (.inr (.inr (mj_q base (mR h a))))))) := by
    rw [mj_w_get ht]
    rcases (show t = 4 ∨ t = 5 ∨ t = 6 by omega) with rfl | rfl | rfl <;> rfl
  have ev : (mj_w base cA h)[v]? = some (base + v, .inr (ci, mj_fs base ci w (mI h v) (mR h v))) := by
    rw [mj_w_get hv]
    rcases hci with ⟨-, rfl⟩ | ⟨-, rfl⟩ | ⟨-, rfl⟩ <;> rfl
  have hty : ∃ r : vw_C, mj_classes[ci]? = some r ∧ (mj_tys cA)[t]? = some (cA t, .object r.1) := by
    rcases hci with ⟨rfl, rfl⟩ | ⟨rfl, rfl⟩ | ⟨rfl, rfl⟩ <;> exact ⟨_, rfl, rfl⟩
  obtain ⟨r, hc, h1⟩ := hty
  obtain ⟨r', hr', cellV, g1, g2, g3, -⟩ := P.1 v _ ev
  have hcls := (hK.1 ci r hc).2
  obtain ⟨kA, comp, k1, k2, k3, -⟩ := (hK.2 t _ h1).2
  have hcomp : comp = D.1 ci := Option.some.inj (k3.symm.trans hcls.1)
  subst hcomp
  obtain ⟨kC, hkC, -⟩ := hcls.2
  refine W.aast (v := base + v) C.1 C.2.1 (P.1 a _ e) (fun q h => by cases h) (fun h => by cases h) k1 k2 rfl hkC ⟨h0, by show _ < (arrV _ _ _).slots.size; rw [arrV_size]; exact hlt⟩ g1 (fun q h => by rw [g3] at h; cases h) (by rw [g2]; exact hkC) (by rw [g2]; exact va_asg _ _) rfl rfl hd fun H1 e1 z oq => ?_
  refine kk H1 _ (mj_wrP P ht rfl mj_oR ?_ z oq) (V.put z oq (by show base ≤ base + a; omega))
  have e2 : mj_e base cA (t, n) (mI (wR h a i.toNatClampNeg (some v)) a) (mL (wR h a i.toNatClampNeg (some v)) a) (mR (wR h a i.toNatClampNeg (some v)) a) = .inl (cA t, n, .inr (.inr (.inr (.inr (mj_q base (va_up (mR h a) i.toNatClampNeg (some v))))))) := by
    rw [mj_sR]
    rcases (show t = 4 ∨ t = 5 ∨ t = 6 by omega) with rfl | rfl | rfl <;> rfl
  rw [e2]
  show H1[base + a]? = some (vp_cell _ _)
  rw [e1]
  show some ((vp_cell (cA t) (n, .inr (.inr (.inr (.inr (mj_q base (mR h a))))))).setSlot _ _) = some _
  rw [vp_cell_q, vp_cell_q, arrV_store]
  congr 2
  funext q
  by_cases hq : q = i.toNatClampNeg <;> simp [updV, va_up, va_rf, mj_q, hq]
/-- an int array into an array of such -/
theorem Ex_aastoreA {v w : Nat} (hd : decode μ.2.1 pc = .ok (.aastore, 1)) (ht : mT h a = some (3, n)) (hv : mT h v = some (0, w)) (hi : vp_in i n) (k : Ex S μ (pc + 1) ls st (wR h a i.toNatClampNeg (some v)) Q) : Ex S μ pc ls (.ref v :: .int i :: .ref a :: st) h Q := by
  refine mj_wr (h1 := wR h a i.toNatClampNeg (some v)) rfl (fun {p l e R s m args below meth c b base D cA H locs cells slots Q rls} C P V L kk => ?_) k
  have hK : va_K D mj_classes (mj_tys cA) s := C.2.2.2.2.2.2.2.2.2.1
  have hlt := mj_lt hi
  have h0 : ¬ i < 0 := fun q => hi (Or.inl q)
  obtain ⟨comp, cc, kA, f1, f2, f3, f4, f5⟩ := arrayOverA_spec C.2.2.2.2.2.2.2.2.1.2.2.2.2.2.2.1
  have hc3 : cc = cA 3 := Option.some.inj (f5.symm.trans (hK.2 3 _ rfl).2)
  have hc0 : comp = cA 0 := Option.some.inj (f1.symm.trans (va_nm_int (hK.2 0 _ rfl).2))
  subst hc3
  subst hc0
  obtain ⟨-, kI, hkI, cmI, hkkI⟩ := (hK.2 0 _ rfl).1 0 (fun _ => .null)
  have hkI : s.vm.classes[cA 0]? = some kI := hkI
  refine W.aast (v := base + v) (kcomp := kI) (kv := kI) C.1 C.2.1 (P.1 a _ (mj_w_get ht)) (fun q h => by cases h) (fun h => by cases h) f3 f4 rfl hkI ⟨h0, by show _ < (arrV _ _ _).slots.size; rw [arrV_size]; exact hlt⟩ (P.1 v _ (mj_w_get hv)) (fun q h => by cases h) hkI (va_asg _ _) rfl rfl hd fun H1 e1 z oq => ?_
  refine kk H1 _ (mj_wrP P ht rfl mj_oR ?_ z oq) (V.put z oq (by show base ≤ base + a; omega))
  rw [mj_sR]
  show H1[base + a]? = some (vp_cell _ _)
  rw [e1]
  show some ((vp_cell (cA 3) (n, .inr (.inr (.inr (.inr (mj_q base (mR h a))))))).setSlot _ _) = some (vp_cell (cA 3) (n, .inr (.inr (.inr (.inr (mj_q base (va_up (mR h a) i.toNatClampNeg (some v))))))))
  rw [vp_cell_q, vp_cell_q, arrV_store]
  congr 2
  funext q
  by_cases hq : q = i.toNatClampNeg <;> simp [updV, va_up, va_rf, mj_q, hq]
end MJA
end
section
/-! Rows of the small machine: fields, new cells, copies. -/
theorem lw_g_of {w : Cond} (h1 : w ∈ lw_tbl) (h2 : goodWord w = true) : w ∈ lw_g := List.mem_filter.mpr ⟨h1, h2⟩
theorem lw_g_at {w : Cond} (i : Nat) (h1 : lw_tbl[i]? = some w) (h2 : goodWord w = true) : w ∈ lw_g := lw_g_of (List.mem_of_getElem? h1) h2
theorem u_ws_good (C : String) (T : u_T) (N : Nat) : ∀ w ∈ u_ws C T N, goodWord w = true := by
  intro w hw
  obtain ⟨k, -, rfl⟩ := List.mem_map.mp hw
  unfold u_lay
  split <;> rfl
theorem iX0 : ∀ w ∈ u_ws RX0 TX0 3, w ∈ lw_tbl := by decide +kernel
theorem iX1 : ∀ w ∈ u_ws RX1 TX1 11, w ∈ lw_tbl := by decide +kernel
theorem iX3 : ∀ w ∈ u_ws RX3 TX3 4, w ∈ lw_tbl := by decide +kernel
theorem iX4 : ∀ w ∈ u_ws RX4 TX4 5, w ∈ lw_tbl := by decide +kernel
theorem iX5 : ∀ w ∈ u_ws RX5 TX5 5, w ∈ lw_tbl := by decide +kernel
theorem iX6 : ∀ w ∈ u_ws RX6 TX6 6, w ∈ lw_tbl := by decide +kernel
theorem iX7 : ∀ w ∈ u_ws RX7 TX7 3, w ∈ lw_tbl := by decide +kernel
theorem iX8 : ∀ w ∈ u_ws RX8 TX8 3, w ∈ lw_tbl := by decide +kernel
theorem iX9 : ∀ w ∈ u_ws RX9 TX9 5, w ∈ lw_tbl := by decide +kernel
theorem iX10 : ∀ w ∈ u_ws RX10 TX10 13, w ∈ lw_tbl := by decide +kernel
theorem iX11 : ∀ w ∈ u_ws RX11 TX11 15, w ∈ lw_tbl := by decide +kernel
theorem iX12 : ∀ w ∈ u_ws RX12 TX12 55, w ∈ lw_tbl := by decide +kernel
/-- what the tables say of a class by its place -/
def mj_clOK (ci : Nat) (C : String) (T : u_T) (N : Nat) : Prop := (∀ w ∈ u_ws C T N, w ∈ lw_g) ∧ (∀ k, k < N → parseFieldDescriptor (T k).2.2.1 = some (mj_ft ci k)) ∧ (∀ a, a < N → ∀ b, b < N → a ≠ b → (T a).2.1 ≠ (T b).2.1) ∧ (∀ j, j < N → defaultValue (mj_ft ci j) = if mj_isR (mj_ft ci j) = true then .null else .int 0) ∧ Cond.instantiable C N ∈ lw_g ∧ Cond.initialized C ∈ lw_g
theorem mj_cl (ci : Nat) (C : String) (T : u_T) (N : Nat) (h : mj_classes[ci]? = some (C, T, N)) : mj_clOK ci C T N := by
  match ci, h with
  | 0, h => cases h; exact ⟨fun w hw => lw_g_of (iX0 w hw) (u_ws_good _ _ _ w hw), tyX0_ok, nmX0, by decide, lw_g_of (by decide +kernel) rfl, lw_g_of (by decide +kernel) rfl⟩
  | 1, h => cases h; exact ⟨fun w hw => lw_g_of (iX1 w hw) (u_ws_good _ _ _ w hw), tyX1_ok, nmX1, by decide, lw_g_of (by decide +kernel) rfl, lw_g_of (by decide +kernel) rfl⟩
  | 2, h => cases h; exact ⟨fun w hw => lw_g_of (iX3 w hw) (u_ws_good _ _ _ w hw), tyX3_ok, nmX3, by decide, lw_g_of (by decide +kernel) rfl, lw_g_of (by decide +kernel) rfl⟩
  | 3, h => cases h; exact ⟨fun w hw => lw_g_of (iX4 w hw) (u_ws_good _ _ _ w hw), tyX4_ok, nmX4, by decide, lw_g_of (by decide +kernel) rfl, lw_g_of (by decide +kernel) rfl⟩
  | 4, h => cases h; exact ⟨fun w hw => lw_g_of (iX5 w hw) (u_ws_good _ _ _ w hw), tyX5_ok, nmX5, by decide, lw_g_of (by decide +kernel) rfl, lw_g_of (by decide +kernel) rfl⟩
  | 5, h => cases h; exact ⟨fun w hw => lw_g_of (iX6 w hw) (u_ws_good _ _ _ w hw), tyX6_ok, nmX6, by decide, lw_g_of (by decide +kernel) rfl, lw_g_of (by decide +kernel) rfl⟩
  | 6, h => cases h; exact ⟨fun w hw => lw_g_of (iX7 w hw) (u_ws_good _ _ _ w hw), tyX7_ok, nmX7, by decide, lw_g_of (by decide +kernel) rfl, lw_g_of (by decide +kernel) rfl⟩
  | 7, h => cases h; exact ⟨fun w hw => lw_g_of (iX8 w hw) (u_ws_good _ _ _ w hw), tyX8_ok, nmX8, by decide, lw_g_of (by decide +kernel) rfl, lw_g_of (by decide +kernel) rfl⟩
  | 8, h => cases h; exact ⟨fun w hw => lw_g_of (iX9 w hw) (u_ws_good _ _ _ w hw), tyX9_ok, nmX9, by decide, lw_g_of (by decide +kernel) rfl, lw_g_of (by decide +kernel) rfl⟩
  | 9, h => cases h; exact ⟨fun w hw => lw_g_of (iX10 w hw) (u_ws_good _ _ _ w hw), tyX10_ok, nmX10, by decide, lw_g_of (by decide +kernel) rfl, lw_g_of (by decide +kernel) rfl⟩
  | 10, h => cases h; exact ⟨fun w hw => lw_g_of (iX11 w hw) (u_ws_good _ _ _ w hw), tyX11_ok, nmX11, by decide, lw_g_of (by decide +kernel) rfl, lw_g_of (by decide +kernel) rfl⟩
  | 11, h => cases h; exact ⟨fun w hw => lw_g_of (iX12 w hw) (u_ws_good _ _ _ w hw), tyX12_ok, nmX12, by decide, lw_g_of (by decide +kernel) rfl, lw_g_of (by decide +kernel) rfl⟩
  | n + 12, h => cases h
/-- a pool entry of a class that names field k of class ci -/
def mj_F (own : String) (idx ci k n : Nat) (fin : Bool) (ty : FieldType) : Prop := ∃ (C : String) (T : u_T), mj_classes[ci]? = some (C, T, n) ∧ k < n ∧ (T k).2.2.2 = fin ∧ mj_ft ci k = ty ∧ (T k).1 = C ∧ Cond.fieldLink own idx (T k).1 (T k).2.1 (T k).2.2.1 ∈ lw_g
theorem mj_fs_len (base c n : Nat) (I : Nat → Int32) (R : Nat → Option Nat) : (mj_fs base c n I R).length = n := by simp [mj_fs]
theorem mj_fs_get {base c n k : Nat} {I : Nat → Int32} {R : Nat → Option Nat} (hk : k < n) : (mj_fs base c n I R)[k]? = some (if mj_isR (mj_ft c k) = true then va_rf (mj_q base R k) else .int (I k)) := by
  unfold mj_fs
  rw [List.getElem?_map, List.getElem?_range hk]; rfl
theorem mj_e_obj (base : Nat) (cA : Nat → ClassId) (ci n : Nat) (I : Nat → Int32) (L : Nat → Int64) (R : Nat → Option Nat) : mj_e base cA (10 + ci, n) I L R = .inr (ci, mj_fs base ci n I R) := by
  unfold mj_e
  rw [if_neg (by show ¬ 10 + ci = 0; omega), if_neg (by show ¬ 10 + ci = 1; omega), if_neg (by show ¬ 10 + ci = 2; omega), if_neg (by show ¬ 10 + ci < 10; omega)]
  rw [show (10 + ci, n).1 - 10 = ci by show 10 + ci - 10 = ci; omega]
theorem mj_fs_setI {base c n k : Nat} {I : Nat → Int32} {R : Nat → Option Nat} {v : Int32} (hr : mj_isR (mj_ft c k) = false) : (mj_fs base c n I R).set k (.int v) = mj_fs base c n (va_up I k v) R := by
  apply List.ext_getElem?
  intro i
  by_cases hi : i < n
  · by_cases hk : k = i
    · subst hk
      rw [List.getElem?_set_self (by rw [mj_fs_len]; exact hi), mj_fs_get hi, hr]
      simp [va_up]
    · rw [List.getElem?_set_ne hk, mj_fs_get hi, mj_fs_get hi]
      have : ¬ i = k := fun z => hk z.symm
      simp [va_up, this]
  · rw [List.getElem?_eq_none (by rw [List.length_set, mj_fs_len]; omega), List.getElem?_eq_none (by rw [mj_fs_len]; omega)]
theorem mj_fs_setR {b base c n k : Nat} {I : Nat → Int32} {R : Nat → Option Nat} {v : Option Nat} (hr : mj_isR (mj_ft c k) = true) : (mj_fs base c n I R).set k (mj_v b base (va_rf v)) = mj_fs base c n I (va_up R k v) := by
  apply List.ext_getElem?
  intro i
  by_cases hi : i < n
  · by_cases hk : k = i
    · subst hk
      rw [List.getElem?_set_self (by rw [mj_fs_len]; exact hi), mj_fs_get hi, hr, ← mj_rfv b base]
      simp [va_up, mj_q]
    · rw [List.getElem?_set_ne hk, mj_fs_get hi, mj_fs_get hi]
      have : ¬ i = k := fun z => hk z.symm
      simp [va_up, mj_q, this]
  · rw [List.getElem?_eq_none (by rw [List.length_set, mj_fs_len]; omega), List.getElem?_eq_none (by rw [mj_fs_len]; omega)]
section MJF
variable {S : mj_S} {μ : mj_Y} {pc : Nat} {ls : mj_L} {st : List Value} {h : mj_H} {Q : Option Value → mj_H → Prop} {a n ci k idx : Nat} {fin : Bool} {ty : FieldType}
theorem Ex_getI (hd : decode μ.2.1 pc = .ok (.getfield idx, 3)) (hF : mj_F μ.1.cls idx ci k n fin ty) (hty : mj_isR ty = false) (ht : mT h a = some (10 + ci, n)) (kk : Ex S μ (pc + 3) ls (.int (mI h a k) :: st) h Q) : Ex S μ pc ls (.ref a :: st) h Q := by
  obtain ⟨C, T, h1, h2, h3, h4, h5, h6⟩ := hF
  subst h4
  have ok := mj_cl ci C T n h1
  refine mj_pure (fun {p l e R s m args below meth c b base D cA H locs cells slots Q rls} C P V L kk => ?_) kk
  have e1 := mj_w_get (base := base) (cA := cA) ht
  rw [mj_e_obj] at e1
  have hv := mj_fs_get (base := base) (c := ci) (I := mI h a) (R := mR h a) h2
  rw [hty] at hv
  exact va_get C.1 C.2.1 C.2.2.2.2.2.2.2.1 ok.1 C.2.2.2.1 C.2.2.2.2.2.2.2.2.2.1 P.1 a e1 h1 k h2 (C.2.2.2.2.2.2.2.1 _ h6) (fun x hx => hx) hv hd (kk _ L)
theorem Ex_getR {v : Value} (hd : decode μ.2.1 pc = .ok (.getfield idx, 3)) (hF : mj_F μ.1.cls idx ci k n fin ty) (hty : mj_isR ty = true) (ht : mT h a = some (10 + ci, n)) (hr : va_rf (mR h a k) = v) (kk : Ex S μ (pc + 3) ls (v :: st) h Q) : Ex S μ pc ls (.ref a :: st) h Q := by
  subst hr
  obtain ⟨C, T, h1, h2, h3, h4, h5, h6⟩ := hF
  subst h4
  have ok := mj_cl ci C T n h1
  refine mj_pure (fun {p l e R s m args below meth c b base D cA H locs cells slots Q rls} C P V L kk => ?_) kk
  have e1 := mj_w_get (base := base) (cA := cA) ht
  rw [mj_e_obj] at e1
  have hv := mj_fs_get (base := base) (c := ci) (I := mI h a) (R := mR h a) h2
  rw [hty] at hv
  have hv : (mj_fs base ci n (mI h a) (mR h a))[k]? = some (mj_v b base (va_rf (mR h a k))) := by
    rw [hv, ← mj_rfv b base]; rfl
  exact va_get C.1 C.2.1 C.2.2.2.2.2.2.2.1 ok.1 C.2.2.2.1 C.2.2.2.2.2.2.2.2.2.1 P.1 a e1 h1 k h2 (C.2.2.2.2.2.2.2.1 _ h6) (fun x hx => hx) hv hd (kk _ L)
/-- a field written, on the machine itself -/
theorem mj_putW {p : Program} {l : Launch} {e : Env} {R : Room} {s : State} {m : MethodId} {args : Array Value} {below : List Frame} {meth : Method} {c : Code} {b base : Nat} {D : va_G} {cA : Nat → ClassId} {H : Heap} {locs : List Loc} {cells slots : Nat} {Q : State → Prop} {rls : Array Slot} {rest : List Value} {v : Value}
    (C : mj_C S μ p R s m args meth c b base D cA) (P : mj_P base D cA h H) (V : va_S (fun q => base ≤ q) s.heap H locs) (hd : decode μ.2.1 pc = .ok (.putfield idx, 3)) (hF : mj_F μ.1.cls idx ci k n fin ty) (hf : fin = false ∨ (fin = true ∧ μ.1.name = "<init>" ∧ ∃ T, mj_classes[ci]? = some (μ.1.cls, T, n))) (ht : mT h a = some (10 + ci, n)) (hn : narrow ty v = v) (hfit : fits ty v = true)
    (kk : ∀ (H1 : Heap) (locs1 : List Loc), va_at D mj_classes (base + a, .inr (ci, (mj_fs base ci n (mI h a) (mR h a)).set k v)) H1 → H1.size = H.size → (∀ q, q ≠ base + a → H1[q]? = H[q]?) → va_S (fun q => base ≤ q) s.heap H1 locs1 → W p l e R s m args below meth c H1 locs1 cells slots Q (F0 m (pc + 3) rls rest)) : W p l e R s m args below meth c H locs cells slots Q (F0 m pc rls (v :: .ref (base + a) :: rest)) := by
  obtain ⟨Cn, T, h1, h2, h3, h4, h5, h6⟩ := hF
  subst h4
  have ok := mj_cl ci Cn T n h1
  have e1 := mj_w_get (base := base) (cA := cA) ht
  rw [mj_e_obj] at e1
  have hts := C.2.2.2.2.2.2.2.1
  have hown := C.2.2.2.1
  have hK : va_K D mj_classes (mj_tys cA) s := C.2.2.2.2.2.2.2.2.2.1
  have hap := va_apart (own := μ.1.cls) hts ok.1 (mj_ft ci) ok.2.1 ok.2.2.1 hK h1
  obtain ⟨r, g1, cell, q1, q2, q3, q4⟩ := P.1 a _ e1
  have hr : r = (Cn, T, n) := Option.some.inj (g1.symm.trans h1)
  subst hr
  obtain ⟨hS, hfc, kC, hkC, hkind⟩ := hK.1 ci _ h1
  obtain ⟨cf, kf, fi, f, hi, hsl⟩ := hS k h2
  have hlay := hts _ (ok.1 _ (u_in_lay h2))
  unfold u_lay at hlay
  have hst := (u_facts hfc hkC (u_lays hts ok.1 h2) hi).1
  have hlink := hts _ h6
  have hl : k < (mj_fs base ci n (mI h a) (mR h a)).length := by rw [mj_fs_len]; exact h2
  rcases hf with hf | ⟨hf, hin2, T', hcl'⟩
  · rw [if_neg (by rw [h3, hf]; decide)] at hlay
    have h7 := u_store hfc hkC hkind hlay hi (ok.2.1 k h2) hn hfit
    refine W.putK C.1 C.2.1 (f := f) ⟨hown, hlink, ⟨_, _, _, hi⟩, hst⟩ (by rw [q2]; exact h7) q1 q3 (by rw [hsl]; exact k2_hasslot (q4 k h2)) rfl rfl hd fun H' e1 e2 e3 => ?_
    rw [hsl] at e1 ⊢
    exact kk H' _ ⟨_, h1, t_OB.to (V := updV (vp_V _) k v) ⟨_, e1, q2, q3, t_set q4 hap h2 v⟩ (fun j _ => vp_updV_set hl v j)⟩ e2 e3 (V.put e2 e3 (by show base ≤ base + a; omega))
  · rw [if_pos (by rw [h3]; exact hf)] at hlay
    have hCn : Cn = μ.1.cls := by
      have := h1.symm.trans hcl'
      cases this
      rfl
    have hcf : m.cls = cf := by
      obtain ⟨_, _, c', _, _, _, -, -, hf', -, -, -, hown2, -⟩ := Cond.laysFinal_spec hlay
      have e1 : c' = cf := by have := hi.symm.trans hf'; simp at this; exact this.1.symm
      rw [h5, hCn] at hown2
      rw [← e1]; exact Option.some.inj (hown.symm.trans hown2)
    have h7 := u_fits hfc hkC hkind (Or.inr hlay) hi (ok.2.1 k h2) hn hfit
    refine W.putFinK C.1 C.2.1 hown hlink hi hst hcf (C.2.2.2.2.2.2.1 hin2) (by rw [q2]; exact h7) q1 q3 (by rw [hsl]; exact k2_hasslot (q4 k h2)) rfl rfl hd fun H' e1 e2 e3 => ?_
    rw [hsl] at e1 ⊢
    exact kk H' _ ⟨_, h1, t_OB.to (V := updV (vp_V _) k v) ⟨_, e1, q2, q3, t_set q4 hap h2 v⟩ (fun j _ => vp_updV_set hl v j)⟩ e2 e3 (V.put e2 e3 (by show base ≤ base + a; omega))
/-- an int field, or a boolean one with 0 or 1 -/
theorem Ex_putI {x : Int32} (hd : decode μ.2.1 pc = .ok (.putfield idx, 3)) (hF : mj_F μ.1.cls idx ci k n fin ty) (hf : fin = false ∨ (fin = true ∧ μ.1.name = "<init>" ∧ ∃ T, mj_classes[ci]? = some (μ.1.cls, T, n))) (ht : mT h a = some (10 + ci, n)) (hty : ty = .int ∨ (ty = .boolean ∧ (x = 0 ∨ x = 1))) (kk : Ex S μ (pc + 3) ls st (wI h a k x) Q) : Ex S μ pc ls (.int x :: .ref a :: st) h Q := by
  have hr : mj_isR (mj_ft ci k) = false := by
    obtain ⟨C, T, h1, h2, h3, h4, h5, h6⟩ := id hF
    rw [h4]; rcases hty with rfl | ⟨rfl, -⟩ <;> rfl
  refine mj_wr (h1 := wI h a k x) rfl (fun {p l e R s m args below meth c b base D cA H locs cells slots Q rls} C P V L kk => ?_) kk
  refine mj_putW (v := .int x) C P V hd hF hf ht (by rcases hty with rfl | ⟨rfl, rfl | rfl⟩ <;> rfl) (by rcases hty with rfl | ⟨rfl, rfl | rfl⟩ <;> rfl) (fun H1 locs1 e1 z oq V1 => ?_)
  refine kk H1 locs1 (mj_wrP P ht rfl mj_oI ?_ z oq) V1
  rw [mj_e_obj, show mI (wI h a k x) a = va_up (mI h a) k x from mj_sI _ _ _]
  rw [mj_fs_setI hr] at e1
  exact e1
theorem Ex_putR {x : Option Nat} {v : Value} (hd : decode μ.2.1 pc = .ok (.putfield idx, 3)) (hF : mj_F μ.1.cls idx ci k n fin ty) (hf : fin = false ∨ (fin = true ∧ μ.1.name = "<init>" ∧ ∃ T, mj_classes[ci]? = some (μ.1.cls, T, n))) (hty : mj_isR ty = true) (ht : mT h a = some (10 + ci, n)) (hx : va_rf x = v) (kk : Ex S μ (pc + 3) ls st (wR h a k x) Q) : Ex S μ pc ls (v :: .ref a :: st) h Q := by
  subst hx
  have hr : mj_isR (mj_ft ci k) = true := by
    obtain ⟨C, T, h1, h2, h3, h4, h5, h6⟩ := id hF
    rw [h4]; exact hty
  refine mj_wr (h1 := wR h a k x) rfl (fun {p l e R s m args below meth c b base D cA H locs cells slots Q rls} C P V L kk => ?_) kk
  refine mj_putW (v := mj_v b base (va_rf x)) C P V hd hF hf ht (by cases ty <;> first | (cases hty; done) | (cases x <;> rfl)) (by cases ty <;> first | (cases hty; done) | (cases x <;> rfl)) (fun H1 locs1 e1 z oq V1 => ?_)
  refine kk H1 locs1 (mj_wrP P ht rfl mj_oR ?_ z oq) V1
  rw [mj_e_obj, mj_sR]
  rw [mj_fs_setR hr] at e1
  exact e1
theorem Ex_new {C : String} {T : u_T} (hd : decode μ.2.1 pc = .ok (.new idx, 3)) (hc : mj_classes[ci]? = some (C, T, n)) (hl : Cond.classLink μ.1.cls idx C ∈ lw_g) (kk : Ex S μ (pc + 3) ls (.ref (mN h) :: st) (mNew h (10 + ci) n) Q) : Ex S μ pc ls st h Q := by
  have ok := mj_cl ci C T n hc
  refine mj_mk (h1 := mNew h (10 + ci) n) (mN_new ..) (mZ_new ..) (fun {p l e R s m args below meth c b base D cA H locs cells slots Q rls} C P V L hcl hsl kk => ?_) kk
  have hts := C.2.2.2.2.2.2.2.1
  have hK : va_K D mj_classes (mj_tys cA) s := C.2.2.2.2.2.2.2.2.2.1
  have hKn := hK.1 ci _ hc
  refine W.newcK C.1 C.2.1 C.2.2.2.1 (hts _ hl) (hts _ ok.2.2.2.2.1) (hts _ ok.2.2.2.2.2) rfl hd hcl hsl hKn.2.1 P.2 fun H1 kC hkC e1 z1 o1 => ?_
  refine kk H1 (mj_mkP P ?_ (by rw [z1, P.2]) (fun q hq => o1 q (by rw [← P.2]; exact hq))) ⟨Nat.le_trans V.1 (by rw [z1, P.2]; omega), fun x h1 h2 => (o1 x (by rw [← P.2]; exact Nat.lt_of_lt_of_le h1 V.1)).trans (V.2.1 x h1 h2), V.2.2⟩
  rw [mj_e_obj]
  refine ⟨_, hc, (u_born (mj_ft ci) hts ok.1 hKn hkC e1 ok.2.1).to (fun j hj => ?_)⟩
  rw [ok.2.2.2.1 j hj]
  show _ = List.getD _ _ _
  rw [List.getD_eq_getElem?_getD, mj_fs_get hj]
  split <;> simp_all [mj_q, va_rf]
end MJF
end
section
/-! Rows of the small machine: new arrays, copies, calls of Object's constructor. -/
section MJN
variable {S : mj_S} {μ : mj_Y} {pc : Nat} {ls : mj_L} {st : List Value} {h : mj_H} {Q : Option Value → mj_H → Prop} {a n ci k idx : Nat}
theorem mj_V1 {base : Nat} {s : State} {H H1 : Heap} {locs : List Loc} (V : va_S (fun q => base ≤ q) s.heap H locs) (z1 : H1.size = H.size + 1) (o1 : ∀ q, q < H.size → H1[q]? = H[q]?) : va_S (fun q => base ≤ q) s.heap H1 locs :=
  ⟨Nat.le_trans V.1 (by rw [z1]; omega), fun x h1 h2 => (o1 x (Nat.lt_of_lt_of_le h1 V.1)).trans (V.2.1 x h1 h2), V.2.2⟩
/-- a new array of ints (tag 0), longs (1) or booleans (2) -/
theorem Ex_newarray {t : Nat} {aty : ArrayType} {i : Int32} (hd : decode μ.2.1 pc = .ok (.newarray aty, 2)) (hty : (t = 0 ∧ aty = .int) ∨ (t = 1 ∧ aty = .long) ∨ (t = 2 ∧ aty = .boolean)) (hw : Cond.arrayClass (newarray.typeOf aty) ∈ lw_g) (hi : ¬ i < 0) (hn : i.toNatClampNeg = n) (hb : n ≤ 1000000) (kk : Ex S μ (pc + 2) ls (.ref (mN h) :: st) (mNew h t n) Q) : Ex S μ pc ls (.int i :: st) h Q := by
  refine mj_mk (h1 := mNew h t n) (mN_new ..) (mZ_new ..) (fun {p l e R s m args below meth c b base D cA H locs cells slots Q rls} C P V L hcl hsl kk => ?_) kk
  have hts := C.2.2.2.2.2.2.2.1
  have hK : va_K D mj_classes (mj_tys cA) s := C.2.2.2.2.2.2.2.2.2.1
  refine va_newaK C.1 C.2.1 (hts _ hw) rfl hd rfl hi hn (by rcases hty with ⟨-, rfl⟩ | ⟨-, rfl⟩ | ⟨-, rfl⟩ <;> simp only [newarray.typeOf, componentBytes] <;> omega) hcl hsl P.2 fun H1 cB e1 z1 o1 hA hf => ?_
  refine kk H1 (mj_mkP P ?_ (by rw [z1, P.2]) (fun q hq => o1 q (by rw [← P.2]; exact hq))) (mj_V1 V (by rw [z1, P.2]) (fun q hq => o1 q (by rw [← P.2]; exact hq)))
  rcases hty with ⟨rfl, rfl⟩ | ⟨rfl, rfl⟩ | ⟨rfl, rfl⟩
  · have : cB = cA 0 := Option.some.inj (hf.symm.trans (hK.2 0 _ rfl).2)
    subst this; exact e1
  · have : cB = cA 1 := Option.some.inj (hf.symm.trans (hK.2 1 _ rfl).2)
    subst this; exact e1
  · have : cB = cA 2 := Option.some.inj (hf.symm.trans (hK.2 2 _ rfl).2)
    subst this; exact e1
theorem mj_nulls (cC : ClassId) (n : Nat) : ({ cls := cC, slots := Array.replicate n .null, vm := .none } : Cell) = vp_cell cC (n, .inr (.inr (.inr (.inr (fun _ => none))))) := by
  rw [vp_cell_q]
  show _ = ({ cls := cC, slots := Array.ofFn (n := n) fun _ => Value.null, vm := .none } : Cell)
  congr 1
  apply Array.ext
  · simp
  · intro j h1 h2; simp
theorem Ex_anewarray {t : Nat} {C : String} {i : Int32} (hd : decode μ.2.1 pc = .ok (.anewarray idx, 3)) (hty : (t = 4 ∧ C = RX7) ∨ (t = 5 ∧ C = RX9) ∨ (t = 6 ∧ C = RX4)) (hw : Cond.classLink μ.1.cls idx C ∈ lw_g) (hi : ¬ i < 0) (hn : i.toNatClampNeg = n) (hb : n ≤ 1000000) (kk : Ex S μ (pc + 3) ls (.ref (mN h) :: st) (mNew h t n) Q) : Ex S μ pc ls (.int i :: st) h Q := by
  subst hn
  refine mj_mk (h1 := mNew h t i.toNatClampNeg) (mN_new ..) (mZ_new ..) (fun {p l e R s m args below meth c b base D cA H locs cells slots Q rls} Cx P V L hcl hsl kk => ?_) kk
  have hts := Cx.2.2.2.2.2.2.2.1
  have hK : va_K D mj_classes (mj_tys cA) s := Cx.2.2.2.2.2.2.2.2.2.1
  have hN := Cx.2.2.2.2.2.2.2.2.1
  have hover : va_AO C s := by rcases hty with ⟨-, rfl⟩ | ⟨-, rfl⟩ | ⟨-, rfl⟩ <;> first | exact hN.2.2.2.1 | exact hN.2.2.2.2.1 | exact hN.2.2.2.2.2.1
  have hk : (mj_tys cA)[t]? = some (cA t, .object C) := by rcases hty with ⟨rfl, rfl⟩ | ⟨rfl, rfl⟩ | ⟨rfl, rfl⟩ <;> rfl
  refine W.anew (C := C) Cx.1 Cx.2.1 Cx.2.2.2.1 (hts _ hw) (va_AO.use hover) rfl hd rfl hi (by omega) hcl hsl fun cB kA comp f1 f2 f3 f4 => ?_
  obtain ⟨_, _, -, -, -, g4⟩ := (hK.2 t _ hk).2
  have hcB : cB = cA t := Option.some.inj (f1.symm.trans g4)
  subst hcB
  have eH : Value.ref H.size = mj_v b base (.ref (mN h)) := by rw [P.2]; rfl
  have k2 := kk (H.push { cls := cA t, slots := Array.replicate i.toNatClampNeg .null, vm := .none }) (mj_mkP P ?_ (by simp) (fun q hq => by rw [Array.getElem?_push, if_neg (Nat.ne_of_lt hq)])) (mj_V1 V (by simp) (fun q hq => by rw [Array.getElem?_push, if_neg (Nat.ne_of_lt hq)]))
  · show W _ _ _ _ _ _ _ _ _ _ _ _ _ _ _ (F0 m (pc + 3) rls (Value.ref H.size :: _))
    rw [eH]
    exact k2
  · have e2 : mj_e base cA (t, i.toNatClampNeg) (fun _ => 0) (fun _ => 0) (fun _ => none) = .inl (cA t, i.toNatClampNeg, .inr (.inr (.inr (.inr (fun _ => none))))) := by
      rcases hty with ⟨rfl, -⟩ | ⟨rfl, -⟩ | ⟨rfl, -⟩ <;> rfl
    rw [e2]
    show (H.push _)[base + mN h]? = some (vp_cell _ _)
    rw [← P.2, ← mj_nulls]
    simp
theorem Ex_anewarrayA {i : Int32} (hd : decode μ.2.1 pc = .ok (.anewarray idx, 3)) (hw : Cond.classLink μ.1.cls idx "[I" ∈ lw_g) (hi : ¬ i < 0) (hn : i.toNatClampNeg = n) (hb : n ≤ 1000000) (kk : Ex S μ (pc + 3) ls (.ref (mN h) :: st) (mNew h 3 n) Q) : Ex S μ pc ls (.int i :: st) h Q := by
  subst hn
  refine mj_mk (h1 := mNew h 3 i.toNatClampNeg) (mN_new ..) (mZ_new ..) (fun {p l e R s m args below meth c b base D cA H locs cells slots Q rls} Cx P V L hcl hsl kk => ?_) kk
  have hts := Cx.2.2.2.2.2.2.2.1
  have hK : va_K D mj_classes (mj_tys cA) s := Cx.2.2.2.2.2.2.2.2.2.1
  have hN := Cx.2.2.2.2.2.2.2.2.1
  refine W.anewA (t := .int) Cx.1 Cx.2.1 Cx.2.2.2.1 (hts _ hw) hN.2.2.2.2.2.2.1 rfl hd rfl hi (by omega) hcl hsl fun cB kA comp f1 f2 f3 f4 => ?_
  have hcB : cB = cA 3 := Option.some.inj (f1.symm.trans (hK.2 3 _ rfl).2)
  subst hcB
  have eH : Value.ref H.size = mj_v b base (.ref (mN h)) := by rw [P.2]; rfl
  have k2 := kk (H.push { cls := cA 3, slots := Array.replicate i.toNatClampNeg .null, vm := .none }) (mj_mkP P ?_ (by simp) (fun q hq => by rw [Array.getElem?_push, if_neg (Nat.ne_of_lt hq)])) (mj_V1 V (by simp) (fun q hq => by rw [Array.getElem?_push, if_neg (Nat.ne_of_lt hq)]))
  · show W _ _ _ _ _ _ _ _ _ _ _ _ _ _ _ (F0 m (pc + 3) rls (Value.ref H.size :: _))
    rw [eH]
    exact k2
  · show (H.push _)[base + mN h]? = some (vp_cell (cA 3) (i.toNatClampNeg, .inr (.inr (.inr (.inr (fun _ => none))))))
    rw [← P.2, ← mj_nulls]
    simp
theorem Ex_checkcastA (hd : decode μ.2.1 pc = .ok (.checkcast idx, 3)) (hw : Cond.classLink μ.1.cls idx "[I" ∈ lw_g) (ht : mT h a = some (0, n)) (kk : Ex S μ (pc + 3) ls (.ref a :: st) h Q) : Ex S μ pc ls (.ref a :: st) h Q :=
  mj_pure (fun {p l e R s m args below meth c b base D cA H locs cells slots Q rls} C P V L kk => va_castA C.1 C.2.1 C.2.2.2.1 (C.2.2.2.2.2.2.2.1 _ hw) P.1 a (mj_w_get ht) (va_nm_int (C.2.2.2.2.2.2.2.2.2.1.2 0 _ rfl).2) hd (kk _ L)) kk
def mj_cat (st : List Value) : Nat := (st.map fun v => v.category).sum
theorem mj_cat_map (b base : Nat) (st : List Value) : ((st.map (mj_v b base)).map fun v => v.category).sum = mj_cat st := by
  unfold mj_cat
  rw [List.map_map]
  congr 1
  apply List.map_congr_left
  intro v _
  exact mj_v_cat b base v
theorem Ex_objInit (hd : decode μ.2.1 pc = .ok (.invokespecial idx, 3)) (hw : Cond.methodLink μ.1.cls idx objectInit ∈ lw_g) (hw2 : Cond.instanceMethod objectInit ∈ lw_g) (hw3 : Cond.code objectInit ⟨#[0xb1]⟩ 1 none ∈ lw_g) (hl : ls.length = μ.2.2.1) (hr : 1 ≤ μ.2.2.2.2.1 ∧ mj_cat st + 12 ≤ μ.2.2.2.2.2) (kk : Ex S μ (pc + 3) ls st h Q) : Ex S μ pc ls (.ref a :: st) h Q := by
  refine mj_pure (fun {p l e R s m args below meth c b base D cA H locs cells slots Q rls} C P V L kk => ?_) kk
  have hts := C.2.2.2.2.2.2.2.1
  refine W.objInit C.1 C.2.1 C.2.2.2.1 (hts _ hw) (hts _ hw2) (hts _ hw3) rfl (by show rls.size = _; rw [L.1, C.2.2.1, hl]) rfl hd (Nat.le_trans hr.1 C.2.2.2.2.2.2.2.2.2.2.1) ?_ (kk _ L)
  have hlo := C.2.2.2.2.2.2.2.2.2.2.2.1
  have e := mj_cat_map b base st
  show 2 * 0 + _ + 12 ≤ _
  rw [e]
  omega
theorem mj_nn (z : Int32) (hz : ¬ z < 0) : z.toInt = (z.toNatClampNeg : Int) := by
  have hz0 : (0 : Int) ≤ z.toInt := by
    have := Int32.not_lt.mp hz
    simpa using Int32.le_iff_toInt_le.mp this
  show z.toInt = ((z.toInt.toNat : Nat) : Int)
  omega
/-- System.arraycopy over arrays of ints -/
theorem Ex_arraycopy {n1 x y : Nat} {sp dp m : Int32} (hd : decode μ.2.1 pc = .ok (.invokestatic idx, 3)) (hw : Cond.methodLink μ.1.cls idx arraycopyName ∈ lw_g) (hw2 : Cond.native arraycopyName ∈ lw_g) (hw3 : Cond.static arraycopyName ∈ lw_g) (hw4 : Cond.initialized "java/lang/System" ∈ lw_g) (hl : ls.length = μ.2.2.1) (hr : 1 ≤ μ.2.2.2.2.1 ∧ mj_cat st + 18 ≤ μ.2.2.2.2.2)
    (hx : mT h x = some (0, n)) (hy : mT h y = some (0, n1)) (h1 : ¬ sp < 0) (h2 : ¬ dp < 0) (h3 : ¬ m < 0) (h4 : sp.toNatClampNeg + m.toNatClampNeg ≤ n) (h5 : dp.toNatClampNeg + m.toNatClampNeg ≤ n1)
    (kk : Ex S μ (pc + 3) ls st (wA h y (va_cpy (mI h x) (mI h y) sp.toNatClampNeg dp.toNatClampNeg m.toNatClampNeg)) Q) : Ex S μ pc ls (.int m :: .int dp :: .ref y :: .int sp :: .ref x :: st) h Q := by
  refine mj_wr (h1 := wA h y (va_cpy (mI h x) (mI h y) sp.toNatClampNeg dp.toNatClampNeg m.toNatClampNeg)) rfl (fun {p l e R s m0 args below meth c b base D cA H locs cells slots Q rls} C P V L kk => ?_) kk
  have hts := C.2.2.2.2.2.2.2.1
  have hK : va_K D mj_classes (mj_tys cA) s := C.2.2.2.2.2.2.2.2.2.1
  have hc0 : H[base + x]? = some (vp_cell (cA 0) (n, .inl (mI h x))) := P.1 x _ (mj_w_get hx)
  have hc1 : H[base + y]? = some (vp_cell (cA 0) (n1, .inl (mI h y))) := P.1 y _ (mj_w_get hy)
  obtain ⟨-, k0, hk0, cm0, hkk0⟩ := (hK.2 0 _ rfl).1 n (fun j => .int (mI h x j))
  have e1 : copied (vp_cell (cA 0) (n, .inl (mI h x))) (vp_cell (cA 0) (n1, .inl (mI h y))) sp dp m = vp_cell (cA 0) (n1, .inl (va_cpy (mI h x) (mI h y) sp.toNatClampNeg dp.toNatClampNeg m.toNatClampNeg)) := va_copied (fun z => .int z) (cA 0) (cA 0) (mI h x) (mI h y) h4
  have hcat := mj_cat_map b base st
  have hlo := C.2.2.2.2.2.2.2.2.2.2.2.1
  intro T hT X
  obtain ⟨vm', X', step⟩ := X.arraycopy C.1 C.2.2.2.1 (hts _ hw) (hts _ hw2) (hts _ hw3) (hts _ hw4) (src := base + x) (dst := base + y) (cs := vp_cell (cA 0) (n, .inl (mI h x))) (cd := vp_cell (cA 0) (n1, .inl (mI h y))) (srcPos := sp) (destPos := dp) (n := m) (by rw [hT]; exact hc0) (by rw [hT]; exact hc1)
    (fun _ h => by cases h) (fun _ h => by cases h) (fun h => by cases h) (fun h => by cases h) hk0 hk0 hkk0 hkk0 (by simp [refKind]) h1 h2 h3
    (by rw [mj_nn sp h1, mj_nn m h3]; show ¬ _ > ((arrV (cA 0) n (fun j => .int (mI h x j))).slots.size : Int); rw [arrV_size]; omega)
    (by rw [mj_nn dp h2, mj_nn m h3]; show ¬ _ > ((arrV (cA 0) n1 (fun j => .int (mI h y j))).slots.size : Int); rw [arrV_size]; omega)
    (fun vm₁ _ i hi => by
      have e : (vp_cell (cA 0) (n, .inl (mI h x))).slots.getD (sp.toNatClampNeg + i) .null = .int (mI h x (sp.toNatClampNeg + i)) := by
        show (arrV (cA 0) n (fun j => .int (mI h x j))).slots.getD _ _ = _
        rw [Array.getD_eq_getD_getElem?, arrV_read _ _ (by omega)]
        rfl
      rw [e]
      exact ⟨rfl, trivial⟩)
    (g := F0 m0 pc rls (List.map (mj_v b base) (.int m :: .int dp :: .ref y :: .int sp :: .ref x :: st))) rfl (by show rls.size = _; rw [L.1, C.2.2.1, hl]) (rest := List.map (mj_v b base) st) rfl (by rw [C.2.1]; exact hd) (Nat.le_trans hr.1 C.2.2.2.2.2.2.2.2.2.2.1) (by show 2 * 0 + _ + (7 + 11) ≤ _; rw [hcat]; omega)
  rw [e1] at X' step
  have hl : base + y < H.size := (Array.getElem?_eq_some_iff.mp hc1).1
  have oq : ∀ q : Nat, q ≠ base + y → (H.setIfInBounds (base + y) (vp_cell (cA 0) (n1, .inl (va_cpy (mI h x) (mI h y) sp.toNatClampNeg dp.toNatClampNeg m.toNatClampNeg))))[q]? = H[q]? := fun q hq => by simp [Array.getElem?_setIfInBounds, Ne.symm hq]
  obtain ⟨t, a1, b1⟩ := kk (H.setIfInBounds (base + y) (vp_cell (cA 0) (n1, .inl (va_cpy (mI h x) (mI h y) sp.toNatClampNeg dp.toNatClampNeg m.toNatClampNeg)))) _ (mj_wrP P hy rfl mj_oI (by
      rw [mj_sI]
      show (H.setIfInBounds (base + y) _)[base + y]? = some (vp_cell (cA 0) _)
      simp [Array.getElem?_setIfInBounds, hl]) (by simp) oq) ⟨by simp; exact V.1, fun q g1 g2 => by
      rw [oq q (fun e => g2 (by show base ≤ q; omega))]
      exact V.2.1 q g1 g2, fun q hq => by
      rcases List.mem_append.mp hq with h | h
      · exact V.2.2 q h
      · obtain ⟨z, -, hz⟩ := List.mem_map.mp h
        rw [← hz]
        show base ≤ base + y
        omega⟩ _ (by rw [← hT]; rfl) X'
  exact ⟨t, step t a1, b1⟩
/-- clone of an array of ints -/
theorem Ex_clone (hd : decode μ.2.1 pc = .ok (.invokevirtual idx, 3)) (hw : Cond.methodLink μ.1.cls idx ⟨"[I", "clone", "()Ljava/lang/Object;"⟩ ∈ lw_g) (hw2 : Cond.sameMethod "[I" "java/lang/Object" "clone" "()Ljava/lang/Object;" ∈ lw_g) (hw3 : Cond.native ⟨"java/lang/Object", "clone", "()Ljava/lang/Object;"⟩ ∈ lw_g) (hw4 : Cond.instanceMethod ⟨"java/lang/Object", "clone", "()Ljava/lang/Object;"⟩ ∈ lw_g) (hw5 : Cond.selects "[I" ⟨"[I", "clone", "()Ljava/lang/Object;"⟩ ⟨"java/lang/Object", "clone", "()Ljava/lang/Object;"⟩ ∈ lw_g)
    (hl : ls.length = μ.2.2.1) (hr : 1 ≤ μ.2.2.2.2.1 ∧ mj_cat st + 14 ≤ μ.2.2.2.2.2) (ht : mT h a = some (0, n))
    (kk : Ex S μ (pc + 3) ls (.ref (mN h) :: st) (wA (mNew h 0 n) (mN h) (mI h a)) Q) : Ex S μ pc ls (.ref a :: st) h Q := by
  refine mj_mk (h1 := wA (mNew h 0 n) (mN h) (mI h a)) (n := n) (by rw [← mN_new h 0 n]; rfl) (by rw [← mZ_new h 0 n]; rfl) (fun {p l e R s m args below meth c b base D cA H locs cells slots Q rls} C P V L hcl hsl kk => ?_) kk
  have hts := C.2.2.2.2.2.2.2.1
  have hK : va_K D mj_classes (mj_tys cA) s := C.2.2.2.2.2.2.2.2.2.1
  have hnm := va_nm_int (hK.2 0 _ rfl).2
  have hcat := mj_cat_map b base st
  have hlo := C.2.2.2.2.2.2.2.2.2.2.2.1
  obtain ⟨c0, t0', f1, f2, f3⟩ := Cond.castable_spec (va_Nw.use (A := args) rfl C.2.2.2.2.2.2.2.2.1.2.2.2.2.2.2.2)
  cases hnm.symm.trans f1
  have hcell : H[base + a]? = some (vp_cell (cA 0) (n, .inl (mI h a))) := P.1 a _ (mj_w_get ht)
  intro T hT X
  obtain ⟨-, kA, hkA, comp, hkind⟩ := State.isArrayOf_alike X.warmed.alike ((hK.2 0 _ rfl).1 0 (fun _ => .null))
  obtain ⟨-, kS, hkS, compS, hkindS⟩ := (hK.2 0 _ rfl).1 0 (fun _ => .null)
  have hsz : (vp_cell (cA 0) (n, .inl (mI h a))).slots.size = n := arrV_size _ _ _
  obtain ⟨vm', X', st0⟩ := X.cloneArray C.1 C.2.2.2.1 (hts _ hw) (hts _ hw2) (hts _ hw3) (hts _ hw4) (hts _ hw5) (a := base + a) (cell := vp_cell (cA 0) (n, .inl (mI h a))) (by rw [hT]; exact hcell) (fun k h => by cases h) (fun h => by cases h) hnm f2 f3
    (fun i v hv => by
      have hk' : T.vm.classes[cA 0]? = some kA := hkA
      have hv' : fits .int v = true := va_fit (cA := cA 0) (n := n) (F := fun j => .int (mI h a j)) (fun _ _ => rfl) i v hv
      simpa [State.fitsSlot, State.slotType?, hk', hkind, vp_cell, arrV] using hv')
    (g := F0 m pc rls (List.map (mj_v b base) (.ref a :: st))) rfl (by show rls.size = _; rw [L.1, C.2.2.1, hl]) rfl (by rw [C.2.1]; exact hd) (Nat.le_trans hr.1 C.2.2.2.2.2.2.2.2.2.2.1) (by show 2 * 0 + _ + 14 ≤ _; rw [hcat]; omega) hcl (by rw [hsz]; exact hsl) (hloader := Vm.clonesLoader_of_array hkS hkindS)
  rw [hsz] at X'
  have P1 : mj_P base D cA (wA (mNew h 0 n) (mN h) (mI h a)) (H.push (vp_cell (cA 0) (n, .inl (mI h a)))) := by
    have P0 : mj_P base D cA (mNew h 0 n) (H.push (vp_cell (cA 0) (n, .inl (fun _ => 0)))) := mj_mkP P (by
      show (H.push _)[base + mN h]? = some (vp_cell (cA 0) _)
      rw [← P.2]; simp) (by simp) (fun q hq => by rw [Array.getElem?_push, if_neg (Nat.ne_of_lt hq)])
    refine mj_wrP P0 (mT_new_self h 0 n) rfl mj_oI ?_ (by simp) (fun q hq => ?_)
    · rw [mj_sI]
      show (H.push _)[base + mN h]? = some (vp_cell (cA 0) _)
      rw [← P.2]; simp
    · rw [← P.2] at hq
      rw [Array.getElem?_push, Array.getElem?_push, if_neg hq, if_neg hq]
  obtain ⟨t, b1, b2⟩ := kk (H.push (vp_cell (cA 0) (n, .inl (mI h a)))) P1 (mj_V1 V (by simp) (fun q hq => by rw [Array.getElem?_push, if_neg (Nat.ne_of_lt hq)])) ((T.setVm vm').pushCell (vp_cell (cA 0) (n, .inl (mI h a)))) (by rw [← hT]; rfl) X'
  refine ⟨t, st0 t ?_, b2⟩
  have eH : Value.ref T.heap.size = mj_v b base (.ref (mN h)) := by rw [hT, P.2]; rfl
  rw [eH]
  exact b1
end MJN
end
section
/-! Rows of the small machine: the method's end, and calls. -/
section MJE
variable {S : mj_S} {μ ν : mj_Y} {pc : Nat} {ls : mj_L} {st : List Value} {h : mj_H} {Q : Option Value → mj_H → Prop}
theorem mj_end {r : Option Value} (q : Q r h) (hr : mj_ret μ pc r) : Ex S μ pc ls r.toList h Q :=
  ⟨r, h, q, Nat.le_refl _, Nat.le_refl _, fun p l e R s m args below meth c b base D cA C n0 z0 Q hn hz hc hl E H locs rls P V L => E H locs rls pc P V hr⟩
theorem Ex_ireturn {v : Int32} (hd : decode μ.2.1 pc = .ok (.ireturn, 1)) (hr : μ.2.2.2.1 = some .int) (q : Q (some (.int v)) h) : Ex S μ pc ls [.int v] h Q := mj_end (r := some (.int v)) q ⟨_, hr, rfl, hd⟩
theorem Ex_zreturn {v : Int32} (hd : decode μ.2.1 pc = .ok (.ireturn, 1)) (hr : μ.2.2.2.1 = some .boolean) (hv : v = 0 ∨ v = 1) (q : Q (some (.int v)) h) : Ex S μ pc ls [.int v] h Q := mj_end (r := some (.int v)) q ⟨_, hr, by rcases hv with rfl | rfl <;> rfl, hd⟩
theorem Ex_lreturn {v : Int64} (hd : decode μ.2.1 pc = .ok (.lreturn, 1)) (hr : μ.2.2.2.1 = some .long) (q : Q (some (.long v)) h) : Ex S μ pc ls [.long v] h Q := mj_end (r := some (.long v)) q ⟨hr, hd⟩
theorem Ex_return (hd : decode μ.2.1 pc = .ok (.return_, 1)) (hr : μ.2.2.2.1 = none) (q : Q none h) : Ex S μ pc ls [] h Q := mj_end (r := none) q ⟨hr, hd⟩
theorem Ex_areturn {v : Nat} {ty : FieldType} (hd : decode μ.2.1 pc = .ok (.areturn, 1)) (hr : μ.2.2.2.1 = some ty) (ht : (∃ n, ty = .object n) ∨ ∃ t, ty = .array t) (q : Q (some (.ref v)) h) : Ex S μ pc ls [.ref v] h Q := mj_end (r := some (.ref v)) q ⟨_, hr, ht, hd⟩
theorem Ex_areturn0 {ty : FieldType} (hd : decode μ.2.1 pc = .ok (.areturn, 1)) (hr : μ.2.2.2.1 = some ty) (ht : (∃ n, ty = .object n) ∨ ∃ t, ty = .array t) (q : Q (some .null) h) : Ex S μ pc ls [.null] h Q := mj_end (r := some .null) q ⟨_, hr, ht, hd⟩
end MJE
/-! the entry of a method -/
def mj_sl : List Value → mj_L
  | [] => []
  | v :: r => if v.category = 2 then some v :: none :: mj_sl r else some v :: mj_sl r
def mj_ent (n : Nat) (as : List Value) : mj_L := mj_sl as ++ List.replicate (n - (mj_sl as).length) none
theorem mj_sl_mem (b base : Nat) : ∀ (as : List Value) (o k : Nat) (v : Value), (mj_sl as)[k]? = some (some v) → (o + k, mj_v b base v) ∈ lv_args o (as.map (mj_v b base))
  | [], o, k, v, h => by simp [mj_sl] at h
  | w :: as, o, k, v, h => by
    simp only [mj_sl] at h
    show _ ∈ (o, mj_v b base w) :: lv_args _ _
    rw [mj_v_cat]
    by_cases hc : w.category = 2
    · rw [if_pos hc] at h ⊢
      match k, h with
      | 0, h => simp at h; subst h; exact List.mem_cons_self ..
      | 1, h => simp at h
      | k + 2, h =>
        have := mj_sl_mem b base as (o + 2) k v (by simpa using h)
        rw [show o + (k + 2) = o + 2 + k by omega]
        exact List.mem_cons_of_mem _ this
    · rw [if_neg hc] at h ⊢
      match k, h with
      | 0, h => simp at h; subst h; exact List.mem_cons_self ..
      | k + 1, h =>
        have := mj_sl_mem b base as (o + 1) k v (by simpa using h)
        rw [show o + (k + 1) = o + 1 + k by omega]
        exact List.mem_cons_of_mem _ this
theorem mj_sl_len (b base : Nat) : ∀ (as : List Value), (lg_sl (as.map (mj_v b base))).length = (mj_sl as).length
  | [] => rfl
  | w :: as => by
    have ih := mj_sl_len b base as
    simp only [lg_sl, mj_sl, List.map_cons, List.flatMap_cons, List.length_append] at ih ⊢
    rw [mj_v_cat, ih]
    by_cases hc : w.category = 2
    · simp [hc]; omega
    · simp [hc]; omega
theorem mj_entry {b base n : Nat} {as : List Value} (hn : (mj_sl as).length ≤ n) : mj_l b base (mj_ent n as) ((lg_sl (as.map (mj_v b base)) ++ List.replicate (n - (lg_sl (as.map (mj_v b base))).length) Slot.unset).toArray) := by
  have hl := lv_entry (as.map (mj_v b base)) (n := n) (by rw [mj_sl_len]; exact hn)
  refine ⟨by rw [hl.1]; unfold mj_ent; simp; omega, hl.2.1, fun k v hk => ?_⟩
  have hk2 : (mj_sl as)[k]? = some (some v) := by
    unfold mj_ent at hk
    by_cases hlt : k < (mj_sl as).length
    · rwa [List.getElem?_append_left hlt] at hk
    · rw [List.getElem?_append_right (by omega)] at hk
      have := List.mem_of_getElem? hk
      rw [List.mem_replicate] at this
      cases this.2
  have := mj_sl_mem b base as 0 k v hk2
  rw [Nat.zero_add] at this
  exact hl.2.2 _ this
def mj_ws (ν : mj_Y) : List Cond := Cond.code ν.1 ν.2.1 ν.2.2.1 ν.2.2.2.1 :: lw_g
def mj_B (base : Nat) (D : va_G) (cA : Nat → ClassId) (h : mj_H) (U : State) : Prop := mj_P base D cA h U.heap ∧ va_K D mj_classes (mj_tys cA) U ∧ mj_N U
def mj_Qc (b base : Nat) (D : va_G) (cA : Nat → ClassId) (r : Option Value) (h' : mj_H) : Array Value → State → Outcome → State → Prop := fun _ st oc t => oc = .returned (r.map (mj_v b base)) ∧ mj_P base D cA h' t.heap ∧ va_F (fun q => base ≤ q) st t
theorem mj_met {S : mj_S} {ν : mj_Y} {as : List Value} {h h' : mj_H} {r : Option Value} (g : mj_Go S ν 0 (mj_ent ν.2.2.1 as) [] h r h') (hpl : plainFor ν.1 = true) (hlaw : ν.1 ≠ yL_law) (hlen : (mj_sl as).length ≤ ν.2.2.1) (l : Launch) (b base : Nat) (D : va_G) (cA : Nat → ClassId) :
    Met l ν.1 (mj_ws ν) ({ frames := ν.2.2.2.2.1, cells := mN h' - mN h, slots := mZ h' - mZ h, locals := ν.2.2.2.2.2 }) (va_Pc (as.map (mj_v b base)) (mj_B base D cA h)) (mj_Qc b base D cA r h') (mN h' - mN h) (mZ h' - mZ h) (fun q => base ≤ q) := by
  refine va_MetF (cc := ν.2.1) (maxL := ν.2.2.1) (ret := ν.2.2.2.1) hpl rfl ?_
  intro p e s m args below meth c s₁ B hml hv
  obtain ⟨rfl, P, hK, hN⟩ := hv
  have hts := atoms_spec (ws := mj_ws ν) B.pre
  have C : mj_C S ν p (headSpec (mj_ws ν) ({ frames := ν.2.2.2.2.1, cells := mN h' - mN h, slots := mZ h' - mZ h, locals := ν.2.2.2.2.2 })).room s m (as.map (mj_v b base)).toArray meth c b base D cA :=
    ⟨B.exec, B.bytes, hml, findClass_of_methodNamed B.named, B.returns, B.notSynchronized, fun hin => (name_of_methodNamed B.named B.method).1.trans hin, fun w hw => hts w (List.mem_cons_of_mem _ hw), hN, hK, Nat.le_refl _, Nat.le_refl _, by rw [P.2]; omega, fun z => absurd z hlaw⟩
  have key := g.2.2 p l e _ s m _ below meth c b base D cA C (mN h) (mZ h) (MQ below (mj_Qc b base D cA r h') (as.map (mj_v b base)).toArray s (mN h' - mN h) (mZ h' - mZ h) (fun q => base ≤ q)) (Nat.le_refl _) (Nat.le_refl _) (Nat.le_refl _) (Nat.le_refl _) ?_ s.heap [] _ P va_S.rf (mj_entry hlen)
  · rw [Nat.sub_self, Nat.sub_self] at key
    rw [lg_entry_eq]
    exact key
  · intro H locs rls pc P' V' hr
    have hq : ∀ t : State, t.heap = H → s.WarmedH t.vm → mj_Qc b base D cA r h' (as.map (mj_v b base)).toArray s (.returned (r.map (mj_v b base))) t := fun t ht _ => ⟨rfl, by rw [ht]; exact P', V'.F ht⟩
    have hf : ∀ q ∈ locs, (fun q => base ≤ q) q.base := V'.2.2
    match r, hr, hq with
    | none, hr, hq => exact W.vret C.1 C.2.1 (C.2.2.2.2.1.trans hr.1) hq hf hr.2 C.2.2.2.2.2.1
    | some (.int v), ⟨ty, h1, h2, h3⟩, hq => exact W.zret C.1 C.2.1 (C.2.2.2.2.1.trans h1) h2 hq hf h3 C.2.2.2.2.2.1
    | some (.long v), hr, hq => exact W.lret C.1 C.2.1 (C.2.2.2.2.1.trans hr.1) hq hf hr.2 C.2.2.2.2.2.1
    | some (.ref v), ⟨ty, h1, h2, h3⟩, hq => exact W.aret C.1 C.2.1 (C.2.2.2.2.1.trans h1) h2 (Or.inr ⟨_, rfl⟩) hq hf h3 C.2.2.2.2.2.1
    | some .null, ⟨ty, h1, h2, h3⟩, hq => exact W.aret C.1 C.2.1 (C.2.2.2.2.1.trans h1) h2 (Or.inl rfl) hq hf h3 C.2.2.2.2.2.1
theorem mj_AOA_moved {u U : State} (hvm : u.vm.Alike U.vm) (h : mj_AOA u) : mj_AOA U := by
  obtain ⟨comp, c, k, h1, h2, h3, h4, h5⟩ := arrayOverA_spec h
  obtain ⟨k', hk', he⟩ := hvm.2.2 _ _ h3
  have hi : (U.vm.classes.findIdx? fun (x : Class) => match x.kind with | .array component _ => component == comp | _ => false) = some c := by
    rw [hvm.findIdx?_eq _ (fun _ => rfl)]
    exact h2
  have hkind : k'.kind = .array comp (.array .int) := by rw [he]; exact h4
  have f1 : U.vm.findClass (FieldType.array .int).toString = some comp := by rw [hvm.findClass]; exact h1
  have f2 : U.vm.findClass ("[" ++ (FieldType.array .int).toString) = some c := by rw [hvm.findClass]; exact h5
  unfold mj_AOA Cond.before Cond.holds
  simp only [Cond.value]
  rw [f1, Option.bind_some]
  refine (congrArg (fun o : Option Nat => (o.bind (fun c => (U.vm.classes[c]?).map fun (k : Class) => match k.kind with | .array _ ty => decide (ty = FieldType.array .int) && decide (U.vm.findClass ("[" ++ (FieldType.array .int).toString) = some c) | _ => false) == some true)) hi).trans ?_
  simp [hk', hkind, f2]
theorem mj_N_warm {s U : State} (hW : s.WarmedH U.vm) (h : mj_N s) : mj_N U :=
  ⟨va_Nw.warmM hW h.1, va_Nw.warmM hW h.2.1, va_Nw.warmM hW h.2.2.1, va_AO.moved hW.alike h.2.2.2.1, va_AO.moved hW.alike h.2.2.2.2.1, va_AO.moved hW.alike h.2.2.2.2.2.1, mj_AOA_moved hW.alike h.2.2.2.2.2.2.1, va_Nw.warmC hW h.2.2.2.2.2.2.2⟩
theorem mj_N_vm {s U : State} (hv : s.vm = U.vm) (h : mj_N s) : mj_N U := by
  have ha : s.vm.Alike U.vm := by rw [hv]; exact Vm.Alike.refl _
  exact ⟨va_Nw.same rfl hv h.1, va_Nw.same rfl hv h.2.1, va_Nw.same rfl hv h.2.2.1, va_AO.moved ha h.2.2.2.1, va_AO.moved ha h.2.2.2.2.1, va_AO.moved ha h.2.2.2.2.2.1, mj_AOA_moved ha h.2.2.2.2.2.2.1, va_Nw.same rfl hv h.2.2.2.2.2.2.2⟩
theorem mj_blind (av : List Value) (base : Nat) (D : va_G) (cA : Nat → ClassId) (h : mj_H) : FrameBlind (va_Pc av (mj_B base D cA h)) := fun a U g mk q => ⟨q.1, q.2.1, va_K.moved (u := U) (U := U.calling g mk a) (Vm.Alike.refl U.vm) q.2.2.1, mj_N_vm rfl q.2.2.2⟩
/-- static facts of a call -/
def mj_K0 (μ ν : mj_Y) (n : Nat) : Prop := plainFor ν.1 = true ∧ ν.1 ≠ yL_law ∧ Cond.code ν.1 ν.2.1 ν.2.2.1 ν.2.2.2.1 ∈ lw_g ∧ Cond.initialized ν.1.cls ∈ lw_g ∧ (ν.1.cls ≠ "java/lang/invoke/MethodHandle" ∧ ν.1.cls ≠ "java/lang/invoke/VarHandle" ∧ (parseMethodDescriptor ν.1.desc).map (fun d => d.parameters.length) = some n) ∧ (ν.2.2.2.2.1 + 1 ≤ μ.2.2.2.2.1 ∧ 8 + (ν.2.2.1 + 11) + ν.2.2.2.2.2 ≤ μ.2.2.2.2.2)
def mj_KS (μ ν : mj_Y) (idx n : Nat) : Prop := mj_K0 μ ν n ∧ Cond.methodLink μ.1.cls idx ν.1 ∈ lw_g ∧ Cond.static ν.1 ∈ lw_g
def mj_KV (μ ν : mj_Y) (idx ci n : Nat) : Prop := mj_K0 μ ν n ∧ Cond.methodLink μ.1.cls idx ν.1 ∈ lw_g ∧ Cond.instanceMethod ν.1 ∈ lw_g ∧ Cond.selects ν.1.cls ν.1 ν.1 ∈ lw_g ∧ ∃ T N, mj_classes[ci]? = some (ν.1.cls, T, N)
def mj_KI (μ ν : mj_Y) (idx n : Nat) : Prop := mj_K0 μ ν n ∧ Cond.methodLink μ.1.cls idx ν.1 ∈ lw_g ∧ Cond.instanceMethod ν.1 ∈ lw_g ∧ ν.1.name = "<init>" ∧ ν.2.2.2.1 = none
def mj_KN (μ ν : mj_Y) (idx n : Nat) : Prop := mj_K0 μ ν n ∧ (∀ s : State, mj_N s → va_Nw (.methodLinkNest μ.1.cls idx ν.1 "TileOffice") s) ∧ Cond.instanceMethod ν.1 ∈ lw_g ∧ ν.1.name = "<init>" ∧ ν.2.2.2.1 = none
theorem mj_good (ν : mj_Y) (h : Cond.code ν.1 ν.2.1 ν.2.2.1 ν.2.2.2.1 ∈ lw_g) : GoodIn lw_g (mj_ws ν) := by
  intro w hw
  have hg : ∀ w ∈ lw_g, w ∈ lw_g ∧ ((w.onTables && w.keeps) = true ∨ ∃ ty, w = .arrayClass ty) := fun w h => ⟨h, good_of_word (List.mem_filter.mp h).2⟩
  rcases List.mem_cons.mp hw with rfl | hw
  · exact hg _ h
  · exact hg w hw
section MJC
variable {S : mj_S} {μ ν : mj_Y} {pc idx n ci : Nat} {ls : mj_L} {st stk : List Value} {h : mj_H} {Q Qr : Option Value → mj_H → Prop} {as : List Value}
/-- from a call that the kit runs to what goes on behind it -/
theorem mj_run {p : Program} {l : Launch} {e : Env} {R : Room} {s : State} {m : MethodId} {args : Array Value} {below : List Frame} {meth : Method} {c : Code} {b base : Nat} {D : va_G} {cA : Nat → ClassId} {H : Heap} {locs : List Loc} {cells slots mc ms : Nat} {Q : State → Prop} {rls : Array Slot} {rstk : List Value} {r1 : Option Value} {h1 : mj_H} {av : Array Value}
    (hr : va_Run p l e R s m args below meth c H locs cells slots mc ms (F0 m pc rls rstk) (st.map (mj_v b base)) (mj_Qc b base D cA r1 h1 av) (fun q => base ≤ q)) (V : va_S (fun q => base ≤ q) s.heap H locs)
    (k : ∀ (H1 : Heap) (locs1 : List Loc), mj_P base D cA h1 H1 → va_S (fun q => base ≤ q) s.heap H1 locs1 → W p l e R s m args below meth c H1 locs1 (cells + mc) (slots + ms) Q (F0 m (pc + 3) rls ((r1.toList ++ st).map (mj_v b base)))) : W p l e R s m args below meth c H locs cells slots Q (F0 m pc rls rstk) := by
  intro T hT X
  obtain ⟨v, st₀, t, T', L, h0, X', hL, e1, e2, ⟨hv, P1, hz, hk⟩, go⟩ := hr T hT X
  have hv : v = r1.map (mj_v b base) := by cases hv; rfl
  subst hv
  rw [h0] at hz hk
  have V1 : va_S (fun q => base ≤ q) s.heap T'.heap (locs ++ L) := by
    refine ⟨by rw [e1]; exact Nat.le_trans V.1 hz, fun q q1 q2 => ?_, fun q hq => ?_⟩
    · rw [e1, hk q (Nat.lt_of_lt_of_le q1 V.1) q2]
      exact V.2.1 q q1 q2
    · rcases List.mem_append.mp hq with z | z
      · exact V.2.2 q z
      · exact hL q z
  obtain ⟨t2, a1, b1⟩ := k T'.heap _ (by rw [e1]; exact P1) V1 T' rfl X'
  refine ⟨t2, go t2 ?_, b1⟩
  have es : (Option.map (mj_v b base) r1).toList ++ st.map (mj_v b base) = (r1.toList ++ st).map (mj_v b base) := by cases r1 <;> simp
  show Steps p.tables e below (T'.setTop { F0 m pc rls rstk with pc := pc + 3, stack := (Option.map (mj_v b base) r1).toList ++ st.map (mj_v b base) }) t2
  rw [es]
  exact a1
/-- the rule of calls, whatever kind of call -/
theorem mj_callX (hc : Ex S ν 0 (mj_ent ν.2.2.1 as) [] h Qr) (k : ∀ r h1, Qr r h1 → Ex S μ (pc + 3) ls (r.toList ++ st) h1 Q)
    (hrun : ∀ {p : Program} {l : Launch} {e : Env} {R : Room} {s : State} {m : MethodId} {args : Array Value} {below : List Frame} {meth : Method} {c : Code} {b base : Nat} {D : va_G} {cA : Nat → ClassId} {H : Heap} {locs : List Loc} {cells slots mc ms : Nat} {rls : Array Slot} {r1 : Option Value} {h1 : mj_H},
      mj_C S μ p R s m args meth c b base D cA → mj_P base D cA h H → mj_l b base ls rls → Met l ν.1 (mj_ws ν) ({ frames := ν.2.2.2.2.1, cells := mc, slots := ms, locals := ν.2.2.2.2.2 }) (va_Pc (as.map (mj_v b base)) (mj_B base D cA h)) (mj_Qc b base D cA r1 h1) mc ms (fun q => base ≤ q) → cells + mc ≤ R.cells ∧ slots + ms ≤ R.slots →
      (∀ U : State, U.heap = H → s.WarmedH U.vm → mj_B base D cA h U) → va_Run p l e R s m args below meth c H locs cells slots mc ms (F0 m pc rls (stk.map (mj_v b base))) (st.map (mj_v b base)) (mj_Qc b base D cA r1 h1 (as.map (mj_v b base)).toArray) (fun q => base ≤ q))
    (hpl : plainFor ν.1 = true) (hlaw : ν.1 ≠ yL_law) (hlen : (mj_sl as).length ≤ ν.2.2.1) : Ex S μ pc ls stk h Q := by
  obtain ⟨r1, h1, q1, g1⟩ := hc
  obtain ⟨r, h', q, g⟩ := k r1 h1 q1
  have n1 := g1.1
  have z1 := g1.2.1
  have n2 := g.1
  have z2 := g.2.1
  refine ⟨r, h', q, by omega, by omega, ?_⟩
  intro p l e R s m args below meth c b base D cA C n0 z0 Q hn hz hc hl E H locs rls P V L
  have M := mj_met g1 hpl hlaw hlen l b base D cA
  refine mj_run (hrun C P L M ⟨by omega, by omega⟩ (fun U hU hW => ⟨by rw [hU]; exact P, va_K.moved hW.alike C.2.2.2.2.2.2.2.2.2.1, mj_N_warm hW C.2.2.2.2.2.2.2.2.1⟩)) V (fun H1 locs1 P1 V1 => ?_)
  have z := g.2.2 p l e R s m args below meth c b base D cA C n0 z0 Q (by omega) (by omega) hc hl E H1 locs1 rls P1 V1 L
  rw [show mN h1 - n0 = mN h - n0 + (mN h1 - mN h) by omega, show mZ h1 - z0 = mZ h - z0 + (mZ h1 - mZ h) by omega] at z
  exact z
theorem mj_room8 {m : MethodId} {rls : Array Slot} {x : List Value} {b base : Nat} {st : List Value} (h : mj_cat st ≤ 8) : 2 * (F0 m pc rls x).monitorRoom + ((st.map (mj_v b base)).map fun v => v.category).sum ≤ 8 := by
  rw [mj_cat_map]
  show 2 * 0 + _ ≤ 8
  omega
theorem Ex_callS (hd : decode μ.2.1 pc = .ok (.invokestatic idx, 3)) (hk : mj_KS μ ν idx n) (as : List Value) (hn : as.length = n) (hs : (mj_sl as).length ≤ ν.2.2.1) (hst : mj_cat st ≤ 8) (hl : ls.length = μ.2.2.1) (hstk : as.reverse ++ st = stk) (hc : Ex S ν 0 (mj_ent ν.2.2.1 as) [] h Qr) (k : ∀ r h1, Qr r h1 → Ex S μ (pc + 3) ls (r.toList ++ st) h1 Q) : Ex S μ pc ls stk h Q := by
  subst hstk
  obtain ⟨⟨k1, k2, k3, k4, k5, k6⟩, k7, k8⟩ := hk
  refine mj_callX hc k (fun {p l e R s m args below meth c b base D cA H locs cells slots mc ms rls r1 h1} C P L M hf hB => ?_) k1 k2 hs
  have hts := C.2.2.2.2.2.2.2.1
  have hR : ν.2.2.2.2.1 + 1 ≤ R.frames ∧ 8 + (ν.2.2.1 + 11) + ν.2.2.2.2.2 ≤ R.locals := ⟨Nat.le_trans k6.1 C.2.2.2.2.2.2.2.2.2.2.1, Nat.le_trans k6.2 C.2.2.2.2.2.2.2.2.2.2.2.1⟩
  exact va_runS (As := as.map (mj_v b base)) (rest := st.map (mj_v b base)) ⟨C.1, C.2.1, C.2.2.1, C.2.2.2.1, hts⟩ M ⟨callB_of n hts (mj_good ν k3) rfl rfl rfl (hts _ k4) (hts _ k7) k5 hR, hts _ k8⟩ ⟨mj_blind _ _ _ _ _, fun U hU hW => ⟨rfl, hB U hU hW⟩⟩ rfl (by rw [List.length_map]; exact hn) (by show rls.size = _; rw [L.1, hl]) (by show List.map _ _ = _; rw [List.map_append, List.map_reverse]) (mj_room8 hst) hd hf
theorem Ex_callV {x w : Nat} (hd : decode μ.2.1 pc = .ok (.invokevirtual idx, 3)) (hk : mj_KV μ ν idx ci n) (as : List Value) (hn : as.length = n) (ht : mT h x = some (10 + ci, w)) (hs : (mj_sl (.ref x :: as)).length ≤ ν.2.2.1) (hst : mj_cat st ≤ 8) (hl : ls.length = μ.2.2.1) (hstk : as.reverse ++ .ref x :: st = stk) (hc : Ex S ν 0 (mj_ent ν.2.2.1 (.ref x :: as)) [] h Qr) (k : ∀ r h1, Qr r h1 → Ex S μ (pc + 3) ls (r.toList ++ st) h1 Q) : Ex S μ pc ls stk h Q := by
  subst hstk
  obtain ⟨⟨k1, k2, k3, k4, k5, k6⟩, k7, k8, k9, T, N, k10⟩ := hk
  refine mj_callX hc k (fun {p l e R s m args below meth c b base D cA H locs cells slots mc ms rls r1 h1} C P L M hf hB => ?_) k1 k2 hs
  have hts := C.2.2.2.2.2.2.2.1
  have hK : va_K D mj_classes (mj_tys cA) s := C.2.2.2.2.2.2.2.2.2.1
  have hR : ν.2.2.2.2.1 + 1 ≤ R.frames ∧ 8 + (ν.2.2.1 + 11) + ν.2.2.2.2.2 ≤ R.locals := ⟨Nat.le_trans k6.1 C.2.2.2.2.2.2.2.2.2.2.1, Nat.le_trans k6.2 C.2.2.2.2.2.2.2.2.2.2.2.1⟩
  have ev := mj_w_get (base := base) (cA := cA) ht
  rw [mj_e_obj] at ev
  exact va_runV (C := ν.1.cls) (b := base + x) (As := as.map (mj_v b base)) (rest := st.map (mj_v b base)) ⟨C.1, C.2.1, C.2.2.1, C.2.2.2.1, hts⟩ M ⟨callB_of n hts (mj_good ν k3) rfl rfl rfl (hts _ k4) (hts _ k7) k5 hR, hts _ k8, hts _ k9⟩ ⟨mj_blind _ _ _ _ _, va_recv hK P.1 k10 ev, fun U hU hW => ⟨rfl, hB U hU hW⟩⟩ rfl (by rw [List.length_map]; exact hn) (by show rls.size = _; rw [L.1, hl]) (by show List.map _ _ = _; rw [List.map_append, List.map_reverse]; rfl) (mj_room8 hst) hd hf
theorem Ex_callI {x : Nat} (hd : decode μ.2.1 pc = .ok (.invokespecial idx, 3)) (hk : mj_KI μ ν idx n) (as : List Value) (hn : as.length = n) (hs : (mj_sl (.ref x :: as)).length ≤ ν.2.2.1) (hst : mj_cat st ≤ 8) (hl : ls.length = μ.2.2.1) (hstk : as.reverse ++ .ref x :: st = stk) (hc : Ex S ν 0 (mj_ent ν.2.2.1 (.ref x :: as)) [] h Qr) (k : ∀ r h1, Qr r h1 → Ex S μ (pc + 3) ls (r.toList ++ st) h1 Q) : Ex S μ pc ls stk h Q := by
  subst hstk
  obtain ⟨⟨k1, k2, k3, k4, k5, k6⟩, k7, k8, k9, k10⟩ := hk
  refine mj_callX hc k (fun {p l e R s m args below meth c b base D cA H locs cells slots mc ms rls r1 h1} C P L M hf hB => ?_) k1 k2 hs
  have hts := C.2.2.2.2.2.2.2.1
  have hR : ν.2.2.2.2.1 + 1 ≤ R.frames ∧ 8 + (ν.2.2.1 + 11) + ν.2.2.2.2.2 ≤ R.locals := ⟨Nat.le_trans k6.1 C.2.2.2.2.2.2.2.2.2.2.1, Nat.le_trans k6.2 C.2.2.2.2.2.2.2.2.2.2.2.1⟩
  have hw : mj_ws ν = Cond.code ν.1 ν.2.1 ν.2.2.1 none :: lw_g := by unfold mj_ws; rw [k10]
  exact va_runI (b := base + x) (As := as.map (mj_v b base)) (rest := st.map (mj_v b base)) ⟨C.1, C.2.1, C.2.2.1, C.2.2.2.1, hts⟩ M ⟨callB_of n hts (mj_good ν k3) hw rfl rfl (hts _ k4) (hts _ k7) k5 hR, k9, hts _ k8⟩ ⟨mj_blind _ _ _ _ _, fun U hU hW => ⟨rfl, hB U hU hW⟩⟩ rfl (by rw [List.length_map]; exact hn) (by show rls.size = _; rw [L.1, hl]) (by show List.map _ _ = _; rw [List.map_append, List.map_reverse]; rfl) (mj_room8 hst) hd hf
theorem Ex_callN {x : Nat} (hd : decode μ.2.1 pc = .ok (.invokespecial idx, 3)) (hk : mj_KN μ ν idx n) (as : List Value) (hn : as.length = n) (hs : (mj_sl (.ref x :: as)).length ≤ ν.2.2.1) (hst : mj_cat st ≤ 8) (hl : ls.length = μ.2.2.1) (hstk : as.reverse ++ .ref x :: st = stk) (hc : Ex S ν 0 (mj_ent ν.2.2.1 (.ref x :: as)) [] h Qr) (k : ∀ r h1, Qr r h1 → Ex S μ (pc + 3) ls (r.toList ++ st) h1 Q) : Ex S μ pc ls stk h Q := by
  subst hstk
  obtain ⟨⟨k1, k2, k3, k4, k5, k6⟩, k7, k8, k9, k10⟩ := hk
  refine mj_callX hc k (fun {p l e R s m args below meth c b base D cA H locs cells slots mc ms rls r1 h1} C P L M hf hB => ?_) k1 k2 hs
  have hts := C.2.2.2.2.2.2.2.1
  have hR : ν.2.2.2.2.1 + 1 ≤ R.frames ∧ 8 + (ν.2.2.1 + 11) + ν.2.2.2.2.2 ≤ R.locals := ⟨Nat.le_trans k6.1 C.2.2.2.2.2.2.2.2.2.2.1, Nat.le_trans k6.2 C.2.2.2.2.2.2.2.2.2.2.2.1⟩
  have hw : mj_ws ν = Cond.code ν.1 ν.2.1 ν.2.2.1 none :: lw_g := by unfold mj_ws; rw [k10]
  exact va_runIN (b := base + x) (As := as.map (mj_v b base)) (rest := st.map (mj_v b base)) ⟨C.1, C.2.1, C.2.2.1, C.2.2.2.1, hts⟩ M ⟨va_cnB n hts (mj_good ν k3) hw rfl rfl (k7 s C.2.2.2.2.2.2.2.2.1) (hts _ k4) k5 hR, k9, hts _ k8⟩ ⟨mj_blind _ _ _ _ _, fun U hU hW => ⟨rfl, hB U hU hW⟩⟩ rfl (by rw [List.length_map]; exact hn) (by show rls.size = _; rw [L.1, hl]) (by show List.map _ _ = _; rw [List.map_append, List.map_reverse]; rfl) (mj_room8 hst) hd hf
end MJC
end
section
theorem lw_a0 {w : Cond} (i : Nat) (h : (k2_sels lw_privs)[i]? = some w) (h2 : goodWord w = true) : w ∈ lw_g := lw_g_of (List.mem_append_left _ (List.mem_of_getElem? h)) h2
theorem lw_a1 {w : Cond} (i : Nat) (h : tables_1_1[i]? = some w) (h2 : goodWord w = true) : w ∈ lw_g := lw_g_of (List.mem_append_right _ (List.mem_append_left _ (List.mem_of_getElem? h))) h2
theorem lw_a2 {w : Cond} (i : Nat) (h : tables_1_2[i]? = some w) (h2 : goodWord w = true) : w ∈ lw_g := lw_g_of (List.mem_append_right _ (List.mem_append_right _ (List.mem_append_left _ (List.mem_of_getElem? h)))) h2
theorem lw_a3 {w : Cond} (i : Nat) (h : tables_1_3[i]? = some w) (h2 : goodWord w = true) : w ∈ lw_g := lw_g_of (List.mem_append_right _ (List.mem_append_right _ (List.mem_append_right _ (List.mem_append_left _ (List.mem_of_getElem? h))))) h2
theorem lw_a4 {w : Cond} (i : Nat) (h : tables_1_4[i]? = some w) (h2 : goodWord w = true) : w ∈ lw_g := lw_g_of (List.mem_append_right _ (List.mem_append_right _ (List.mem_append_right _ (List.mem_append_right _ (List.mem_append_left _ (List.mem_of_getElem? h)))))) h2
theorem lw_a5 {w : Cond} (i : Nat) (h : tables_1_5[i]? = some w) (h2 : goodWord w = true) : w ∈ lw_g := lw_g_of (List.mem_append_right _ (List.mem_append_right _ (List.mem_append_right _ (List.mem_append_right _ (List.mem_append_right _ (List.mem_append_left _ (List.mem_of_getElem? h))))))) h2
theorem lw_a6 {w : Cond} (i : Nat) (h : tables_1_6[i]? = some w) (h2 : goodWord w = true) : w ∈ lw_g := lw_g_of (List.mem_append_right _ (List.mem_append_right _ (List.mem_append_right _ (List.mem_append_right _ (List.mem_append_right _ (List.mem_append_right _ (List.mem_append_left _ (List.mem_of_getElem? h)))))))) h2
theorem lw_a7 {w : Cond} (i : Nat) (h : tables_1_7[i]? = some w) (h2 : goodWord w = true) : w ∈ lw_g := lw_g_of (List.mem_append_right _ (List.mem_append_right _ (List.mem_append_right _ (List.mem_append_right _ (List.mem_append_right _ (List.mem_append_right _ (List.mem_append_right _ (List.mem_of_getElem? h)))))))) h2
/-! The program's methods and what its pools name, by program. -/
def bl_init : mj_Y := (yX0_init, cX0_init, 2, none, 1, 26)
def bl_mayBeRegion : mj_Y := (yX0_mayBeRegion, cX0_mayBeRegion, 2, (some .boolean), 0, 0)
def bl_isNothing : mj_Y := (yX0_isNothing, cX0_isNothing, 1, (some .boolean), 0, 0)
def bl_hasPlace : mj_Y := (yX0_hasPlace, cX0_hasPlace, 3, (some .boolean), 0, 0)
def bl_cellAt : mj_Y := (yX0_cellAt, cX0_cellAt, 3, (some .int), 1, 22)
def bl_setCell : mj_Y := (yX0_setCell, cX0_setCell, 4, none, 1, 22)
def bl_filledCells : mj_Y := (yX0_filledCells, cX0_filledCells, 4, (some .int), 2, 44)
def bl_takePattern : mj_Y := (yX0_takePattern, cX0_takePattern, 8, none, 3, 71)
def bl_takeWhole : mj_Y := (yX0_takeWhole, cX0_takeWhole, 2, none, 4, 98)
def bl_takeMoved : mj_Y := (yX0_takeMoved, cX0_takeMoved, 9, none, 2, 46)
def bo_init : mj_Y := (yX1_init, cX1_init, 2, none, 1, 26)
def bo_begin : mj_Y := (yX1_begin, cX1_begin, 3, none, 4, 93)
def bo_has : mj_Y := (yX1_has, cX1_has, 2, (some .boolean), 0, 0)
def bo_beside : mj_Y := (yX1_beside, cX1_beside, 5, (some .int), 0, 0)
def bo_codeAt : mj_Y := (yX1_codeAt, cX1_codeAt, 2, (some .int), 0, 0)
def bo_lookAround : mj_Y := (yX1_lookAround, cX1_lookAround, 4, none, 2, 47)
def bo_givenOnesFit : mj_Y := (yX1_givenOnesFit, cX1_givenOnesFit, 4, (some .boolean), 2, 47)
def bo_isWaiting : mj_Y := (yX1_isWaiting, cX1_isWaiting, 2, (some .boolean), 0, 0)
def bo_fittingWord : mj_Y := (yX1_fittingWord, cX1_fittingWord, 6, (some .long), 1, 24)
def bo_recount : mj_Y := (yX1_recount, cX1_recount, 4, none, 2, 49)
def bo_recountAll : mj_Y := (yX1_recountAll, cX1_recountAll, 2, none, 3, 72)
def bo_scarcestPlace : mj_Y := (yX1_scarcestPlace, cX1_scarcestPlace, 3, (some .int), 1, 21)
def bo_fittingAfter : mj_Y := (yX1_fittingAfter, cX1_fittingAfter, 7, (some .int), 2, 49)
def bo_lay : mj_Y := (yX1_lay, cX1_lay, 4, none, 4, 95)
def bo_lift : mj_Y := (yX1_lift, cX1_lift, 3, none, 4, 95)
def bo_tellAround : mj_Y := (yX1_tellAround, cX1_tellAround, 4, none, 3, 72)
def bo_changeLeft : mj_Y := (yX1_changeLeft, cX1_changeLeft, 6, (some .boolean), 3, 64)
def bo_flipLeftBits : mj_Y := (yX1_flipLeftBits, cX1_flipLeftBits, 3, none, 2, 42)
def bo_forceRounds : mj_Y := (yX1_forceRounds, cX1_forceRounds, 4, (some .int), 6, 140)
def bo_forceRound : mj_Y := (yX1_forceRound, cX1_forceRound, 3, (some .int), 5, 118)
def bo_showOn : mj_Y := (yX1_showOn, cX1_showOn, 3, none, 1, 22)
def ce_tile : mj_Y := (yX2_tile, cX2_tile, 3, (some .int), 0, 0)
def ce_kindOf : mj_Y := (yX2_kindOf, cX2_kindOf, 1, (some .int), 0, 0)
def ce_moveOf : mj_Y := (yX2_moveOf, cX2_moveOf, 1, (some .int), 0, 0)
def ce_shadeOf : mj_Y := (yX2_shadeOf, cX2_shadeOf, 1, (some .int), 0, 0)
def ce_shaded : mj_Y := (yX2_shaded, cX2_shaded, 2, (some .int), 1, 22)
def ch_init : mj_Y := (yX3_init, cX3_init, 2, none, 1, 26)
def ch_gather : mj_Y := (yX3_gather, cX3_gather, 4, none, 3, 69)
def ch_enter : mj_Y := (yX3_enter, cX3_enter, 3, none, 2, 47)
def ch_mark : mj_Y := (yX3_mark, cX3_mark, 3, none, 0, 0)
def ch_codeOf : mj_Y := (yX3_codeOf, cX3_codeOf, 2, (some .int), 0, 0)
def ch_kindOf : mj_Y := (yX3_kindOf, cX3_kindOf, 2, (some .int), 1, 21)
def ch_colourOf : mj_Y := (yX3_colourOf, cX3_colourOf, 3, (some .int), 1, 25)
def ch_withColour : mj_Y := (yX3_withColour, cX3_withColour, 5, (some .long), 0, 0)
def fl_init : mj_Y := (yX4_init, cX4_init, 3, none, 1, 26)
def fl_mayBe : mj_Y := (yX4_mayBe, cX4_mayBe, 2, (some .boolean), 0, 0)
def fl_hasPlace : mj_Y := (yX4_hasPlace, cX4_hasPlace, 3, (some .boolean), 0, 0)
def fl_setPlace : mj_Y := (yX4_setPlace, cX4_setPlace, 4, none, 1, 22)
def fl_placeAt : mj_Y := (yX4_placeAt, cX4_placeAt, 2, (some .int), 0, 0)
def fl_shownAt : mj_Y := (yX4_shownAt, cX4_shownAt, 4, (some .int), 1, 22)
def fl_setStock : mj_Y := (yX4_setStock, cX4_setStock, 3, none, 0, 0)
def fl_stockOf : mj_Y := (yX4_stockOf, cX4_stockOf, 2, (some .int), 0, 0)
def fl_showNothing : mj_Y := (yX4_showNothing, cX4_showNothing, 1, none, 1, 23)
def fl_showAt : mj_Y := (yX4_showAt, cX4_showAt, 3, none, 0, 0)
def hi_init : mj_Y := (yX5_init, cX5_init, 1, none, 1, 26)
def hi_remember : mj_Y := (yX5_remember, cX5_remember, 3, none, 1, 26)
def hi_latest : mj_Y := (yX5_latest, cX5_latest, 1, (some .int), 0, 0)
def hi_latestPattern : mj_Y := (yX5_latestPattern, cX5_latestPattern, 1, (some .int), 1, 20)
def hi_giveBack : mj_Y := (yX5_giveBack, cX5_giveBack, 2, none, 2, 49)
def ki_init : mj_Y := (yX6_init, cX6_init, 1, none, 1, 26)
def ki_lettersOf : mj_Y := (yX6_lettersOf, cX6_lettersOf, 7, (some .long), 0, 0)
def ki_mayBe : mj_Y := (yX6_mayBe, cX6_mayBe, 5, (some .boolean), 0, 0)
def ki_chained : mj_Y := (yX6_chained, cX6_chained, 3, (some .int), 0, 0)
def ki_isFull : mj_Y := (yX6_isFull, cX6_isFull, 1, (some .boolean), 0, 0)
def ki_has : mj_Y := (yX6_has, cX6_has, 2, (some .boolean), 0, 0)
def ki_add : mj_Y := (yX6_add, cX6_add, 7, (some .int), 1, 20)
def ki_withLetters : mj_Y := (yX6_withLetters, cX6_withLetters, 4, (some .int), 0, 0)
def ki_costOf : mj_Y := (yX6_costOf, cX6_costOf, 2, (some .int), 0, 0)
def ki_lies : mj_Y := (yX6_lies, cX6_lies, 3, (some .int), 0, 0)
def ki_colour : mj_Y := (yX6_colour, cX6_colour, 6, (some .int), 0, 0)
def ki_cellOf : mj_Y := (yX6_cellOf, cX6_cellOf, 3, (some .int), 1, 22)
def ki_movedCell : mj_Y := (yX6_movedCell, cX6_movedCell, 5, (some .int), 1, 22)
def ki_meet : mj_Y := (yX6_meet, cX6_meet, 5, (some .boolean), 1, 25)
def pa_init : mj_Y := (yX7_init, cX7_init, 2, none, 1, 26)
def pa_hasRow : mj_Y := (yX7_hasRow, cX7_hasRow, 3, (some .boolean), 0, 0)
def pa_idAt : mj_Y := (yX7_idAt, cX7_idAt, 3, (some .int), 1, 22)
def pa_lengthAt : mj_Y := (yX7_lengthAt, cX7_lengthAt, 2, (some .int), 2, 44)
def pa_offsetAt : mj_Y := (yX7_offsetAt, cX7_offsetAt, 2, (some .int), 2, 44)
def pa_cellAt : mj_Y := (yX7_cellAt, cX7_cellAt, 5, (some .int), 2, 47)
def pa_insertId : mj_Y := (yX7_insertId, cX7_insertId, 3, none, 1, 26)
def pa_removeId : mj_Y := (yX7_removeId, cX7_removeId, 2, none, 1, 26)
def pa_renewRow : mj_Y := (yX7_renewRow, cX7_renewRow, 3, (some .int), 2, 48)
def pa_takeRows : mj_Y := (yX7_takeRows, cX7_takeRows, 4, none, 1, 26)
def pa_placesOf : mj_Y := (yX7_placesOf, cX7_placesOf, 4, (some .int), 0, 0)
def pa_isFull : mj_Y := (yX7_isFull, cX7_isFull, 2, (some .boolean), 3, 65)
def pa_mayGrow : mj_Y := (yX7_mayGrow, cX7_mayGrow, 4, (some .boolean), 3, 65)
def pa_isBlock : mj_Y := (yX7_isBlock, cX7_isBlock, 2, (some .boolean), 3, 73)
def pa_bears : mj_Y := (yX7_bears, cX7_bears, 5, (some .boolean), 2, 49)
def rs_init : mj_Y := (yX8_init, cX8_init, 1, none, 1, 26)
def rs_mayBe : mj_Y := (yX8_mayBe, cX8_mayBe, 2, (some .boolean), 0, 0)
def rs_left : mj_Y := (yX8_left, cX8_left, 1, (some .int), 0, 0)
def rs_make : mj_Y := (yX8_make, cX8_make, 4, (some .int), 1, 23)
def rs_makeLike : mj_Y := (yX8_makeLike, cX8_makeLike, 3, (some .int), 1, 26)
def rs_enter : mj_Y := (yX8_enter, cX8_enter, 3, (some .int), 0, 0)
def rs_cellsOf : mj_Y := (yX8_cellsOf, cX8_cellsOf, 2, (some (.array .int)), 0, 0)
def rs_offsetOf : mj_Y := (yX8_offsetOf, cX8_offsetOf, 2, (some .int), 0, 0)
def rs_lengthOf : mj_Y := (yX8_lengthOf, cX8_lengthOf, 3, (some .int), 1, 21)
def rs_cellAt : mj_Y := (yX8_cellAt, cX8_cellAt, 7, (some .int), 1, 21)
def rs_setCell : mj_Y := (yX8_setCell, cX8_setCell, 6, none, 1, 21)
def rs_bears : mj_Y := (yX8_bears, cX8_bears, 9, (some .boolean), 1, 21)
def ru_init : mj_Y := (yX9_init, cX9_init, 3, none, 1, 26)
def ru_mayBe : mj_Y := (yX9_mayBe, cX9_mayBe, 2, (some .boolean), 0, 0)
def ru_hasPlace : mj_Y := (yX9_hasPlace, cX9_hasPlace, 3, (some .boolean), 0, 0)
def ru_hasCell : mj_Y := (yX9_hasCell, cX9_hasCell, 4, (some .boolean), 1, 22)
def ru_setCell : mj_Y := (yX9_setCell, cX9_setCell, 5, none, 2, 45)
def ru_cellAt : mj_Y := (yX9_cellAt, cX9_cellAt, 4, (some .int), 2, 45)
def ru_childOf : mj_Y := (yX9_childOf, cX9_childOf, 9, (some .int), 3, 68)
def ru_rowBefore : mj_Y := (yX9_rowBefore, cX9_rowBefore, 4, (some .int), 0, 0)
def ru_columnBefore : mj_Y := (yX9_columnBefore, cX9_columnBefore, 4, (some .int), 0, 0)
def ru_foretell : mj_Y := (yX9_foretell, cX9_foretell, 5, (some .long), 2, 49)
def ru_foretellStep : mj_Y := (yX9_foretellStep, cX9_foretellStep, 6, none, 1, 24)
def ru_sum : mj_Y := (yX9_sum, cX9_sum, 4, (some .long), 0, 0)
def se_init : mj_Y := (yX10_init, cX10_init, 3, none, 1, 26)
def se_run : mj_Y := (yX10_run, cX10_run, 4, none, 7, 162)
def se_leastCostOn : mj_Y := (yX10_leastCostOn, cX10_leastCostOn, 4, (some .int), 1, 21)
def se_explore : mj_Y := (yX10_explore, cX10_explore, 5, none, 6, 138)
def se_openDepth : mj_Y := (yX10_openDepth, cX10_openDepth, 2, none, 2, 43)
def se_openAgain : mj_Y := (yX10_openAgain, cX10_openAgain, 2, none, 5, 117)
def se_nextTry : mj_Y := (yX10_nextTry, cX10_nextTry, 4, (some .int), 4, 85)
def se_isPassedOver : mj_Y := (yX10_isPassedOver, cX10_isPassedOver, 3, (some .boolean), 3, 63)
def se_noteTry : mj_Y := (yX10_noteTry, cX10_noteTry, 2, none, 3, 63)
def se_costOf : mj_Y := (yX10_costOf, cX10_costOf, 2, (some .int), 2, 42)
def se_noteFill : mj_Y := (yX10_noteFill, cX10_noteFill, 2, none, 2, 44)
def to_init : mj_Y := (yX11_init, cX11_init, 3, none, 2, 48)
def to_kind : mj_Y := (yX11_kind, cX11_kind, 9, (some .int), 2, 46)
def to_named : mj_Y := (yX11_named, cX11_named, 3, (some .int), 1, 26)
def to_edge : mj_Y := (yX11_edge, cX11_edge, 5, (some .int), 1, 25)
def to_then : mj_Y := (yX11_then, cX11_then, 3, (some .int), 1, 22)
def to_isMove : mj_Y := (yX11_isMove, cX11_isMove, 1, (some .boolean), 0, 0)
def to_isKindInMove : mj_Y := (yX11_isKindInMove, cX11_isKindInMove, 3, (some .boolean), 1, 21)
def to_pattern : mj_Y := (yX11_pattern, cX11_pattern, 1, (some .int), 2, 47)
def to_keep : mj_Y := (yX11_keep, cX11_keep, 2, (some .int), 0, 0)
def to_patternOf : mj_Y := (yX11_patternOf, cX11_patternOf, 2, (some (.object "TileOffice$Pattern")), 0, 0)
def to_insert : mj_Y := (yX11_insert, cX11_insert, 6, (some .boolean), 2, 48)
def to_remove : mj_Y := (yX11_remove, cX11_remove, 4, (some .boolean), 2, 48)
def to_move : mj_Y := (yX11_move, cX11_move, 6, (some .boolean), 2, 48)
def to_put : mj_Y := (yX11_put, cX11_put, 6, (some .boolean), 4, 96)
def to_shade : mj_Y := (yX11_shade, cX11_shade, 7, (some .boolean), 4, 96)
def to_setCell : mj_Y := (yX11_setCell, cX11_setCell, 6, (some .boolean), 3, 71)
def to_at : mj_Y := (yX11_at, cX11_at, 7, (some .int), 3, 71)
def to_row : mj_Y := (yX11_row, cX11_row, 5, (some .int), 3, 65)
def to_placesOf : mj_Y := (yX11_placesOf, cX11_placesOf, 5, (some .int), 1, 23)
def to_shares : mj_Y := (yX11_shares, cX11_shares, 7, (some .boolean), 2, 44)
def to_copy : mj_Y := (yX11_copy, cX11_copy, 4, (some .int), 2, 49)
def to_region : mj_Y := (yX11_region, cX11_region, 7, (some .int), 4, 98)
def to_turn : mj_Y := (yX11_turn, cX11_turn, 2, (some .boolean), 3, 74)
def to_paste : mj_Y := (yX11_paste, cX11_paste, 9, (some .int), 6, 148)
def to_cellsThatCome : mj_Y := (yX11_cellsThatCome, cX11_cellsThatCome, 7, (some .int), 4, 96)
def to_comes : mj_Y := (yX11_comes, cX11_comes, 6, (some .boolean), 3, 71)
def to_pasteRows : mj_Y := (yX11_pasteRows, cX11_pasteRows, 7, none, 5, 122)
def to_rule : mj_Y := (yX11_rule, cX11_rule, 3, (some .int), 2, 48)
def to_ruleOf : mj_Y := (yX11_ruleOf, cX11_ruleOf, 2, (some (.object "TileOffice$Rule")), 0, 0)
def to_becomes : mj_Y := (yX11_becomes, cX11_becomes, 8, (some .boolean), 3, 69)
def to_grow : mj_Y := (yX11_grow, cX11_grow, 10, (some .int), 6, 157)
def to_power : mj_Y := (yX11_power, cX11_power, 4, (some .int), 1, 21)
def to_growsStraight : mj_Y := (yX11_growsStraight, cX11_growsStraight, 10, (some .boolean), 5, 127)
def to_grownRow : mj_Y := (yX11_grownRow, cX11_grownRow, 11, (some .int), 5, 127)
def to_grownCell : mj_Y := (yX11_grownCell, cX11_grownCell, 12, (some .int), 4, 96)
def to_foretold : mj_Y := (yX11_foretold, cX11_foretold, 6, (some .long), 3, 73)
def to_count : mj_Y := (yX11_count, cX11_count, 9, (some .int), 3, 71)
def to_fits : mj_Y := (yX11_fits, cX11_fits, 11, (some .int), 3, 71)
def to_period : mj_Y := (yX11_period, cX11_period, 5, (some .int), 4, 98)
def to_repeats : mj_Y := (yX11_repeats, cX11_repeats, 8, (some .boolean), 3, 71)
def to_kept : mj_Y := (yX11_kept, cX11_kept, 5, (some .int), 5, 119)
def to_congruent : mj_Y := (yX11_congruent, cX11_congruent, 6, (some .int), 5, 119)
def to_find : mj_Y := (yX11_find, cX11_find, 7, (some .int), 5, 119)
def to_markFound : mj_Y := (yX11_markFound, cX11_markFound, 8, none, 3, 73)
def to_foundAt : mj_Y := (yX11_foundAt, cX11_foundAt, 7, (some .int), 1, 23)
def to_bitAt : mj_Y := (yX11_bitAt, cX11_bitAt, 4, (some .int), 0, 0)
def to_floor : mj_Y := (yX11_floor, cX11_floor, 3, (some .int), 2, 48)
def to_floorOf : mj_Y := (yX11_floorOf, cX11_floorOf, 2, (some (.object "TileOffice$Floor")), 0, 0)
def to_place : mj_Y := (yX11_place, cX11_place, 7, (some .boolean), 2, 45)
def to_stock : mj_Y := (yX11_stock, cX11_stock, 5, (some .boolean), 1, 22)
def to_fill : mj_Y := (yX11_fill, cX11_fill, 3, (some .int), 8, 185)
def to_fills : mj_Y := (yX11_fills, cX11_fills, 4, (some .int), 8, 185)
def to_cheapest : mj_Y := (yX11_cheapest, cX11_cheapest, 3, (some .int), 8, 185)
def to_forced : mj_Y := (yX11_forced, cX11_forced, 4, (some .int), 7, 163)
def to_shown : mj_Y := (yX11_shown, cX11_shown, 5, (some .int), 2, 45)
def to_undo : mj_Y := (yX11_undo, cX11_undo, 2, (some .int), 3, 70)
def to_about : mj_Y := (yX11_about, cX11_about, 2, (some .int), 0, 0)
def rm_init : mj_Y := (yX12_init, cX12_init, 1, none, 1, 26)
def rm_plain : mj_Y := (yX12_plain, cX12_plain, 7, (some .long), 0, 0)
def rm_kind : mj_Y := (yX12_kind, cX12_kind, 11, (some .int), 2, 51)
def rm_named : mj_Y := (yX12_named, cX12_named, 6, (some .int), 1, 26)
def rm_isMove : mj_Y := (yX12_isMove, cX12_isMove, 1, (some .boolean), 0, 0)
def rm_isKind : mj_Y := (yX12_isKind, cX12_isKind, 2, (some .boolean), 0, 0)
def rm_lies : mj_Y := (yX12_lies, cX12_lies, 3, (some .int), 0, 0)
def rm_thenMove : mj_Y := (yX12_thenMove, cX12_thenMove, 2, (some .int), 0, 0)
def rm_then : mj_Y := (yX12_then, cX12_then, 3, (some .int), 1, 21)
def rm_colour : mj_Y := (yX12_colour, cX12_colour, 5, (some .int), 0, 0)
def rm_edge : mj_Y := (yX12_edge, cX12_edge, 5, (some .int), 1, 24)
def rm_cell : mj_Y := (yX12_cell, cX12_cell, 3, (some .int), 0, 0)
def rm_kindOf : mj_Y := (yX12_kindOf, cX12_kindOf, 1, (some .int), 0, 0)
def rm_moveOf : mj_Y := (yX12_moveOf, cX12_moveOf, 1, (some .int), 0, 0)
def rm_shadeOf : mj_Y := (yX12_shadeOf, cX12_shadeOf, 1, (some .int), 0, 0)
def rm_moved : mj_Y := (yX12_moved, cX12_moved, 3, (some .int), 1, 22)
def rm_fit : mj_Y := (yX12_fit, cX12_fit, 4, (some .boolean), 1, 24)
def rm_isPattern : mj_Y := (yX12_isPattern, cX12_isPattern, 2, (some .boolean), 0, 0)
def rm_rowOf : mj_Y := (yX12_rowOf, cX12_rowOf, 3, (some .int), 0, 0)
def rm_newRow : mj_Y := (yX12_newRow, cX12_newRow, 4, (some .int), 0, 0)
def rm_has : mj_Y := (yX12_has, cX12_has, 7, (some .boolean), 1, 22)
def rm_placeOf : mj_Y := (yX12_placeOf, cX12_placeOf, 4, (some .int), 1, 22)
def rm_cellAt : mj_Y := (yX12_cellAt, cX12_cellAt, 4, (some .int), 2, 45)
def rm_keep : mj_Y := (yX12_keep, cX12_keep, 3, none, 1, 22)
def rm_undo : mj_Y := (yX12_undo, cX12_undo, 3, (some .int), 0, 0)
def rm_pattern : mj_Y := (yX12_pattern, cX12_pattern, 1, (some .int), 0, 0)
def rm_insert : mj_Y := (yX12_insert, cX12_insert, 6, (some .boolean), 2, 44)
def rm_takeRow : mj_Y := (yX12_takeRow, cX12_takeRow, 4, none, 1, 22)
def rm_remove : mj_Y := (yX12_remove, cX12_remove, 3, (some .boolean), 2, 45)
def rm_move : mj_Y := (yX12_move, cX12_move, 6, (some .boolean), 2, 45)
def rm_own : mj_Y := (yX12_own, cX12_own, 6, none, 1, 23)
def rm_sets : mj_Y := (yX12_sets, cX12_sets, 5, (some .boolean), 2, 48)
def rm_put : mj_Y := (yX12_put, cX12_put, 6, (some .boolean), 3, 72)
def rm_shade : mj_Y := (yX12_shade, cX12_shade, 6, (some .boolean), 3, 72)
def rm_at : mj_Y := (yX12_at, cX12_at, 7, (some .int), 3, 68)
def rm_row : mj_Y := (yX12_row, cX12_row, 8, (some .int), 1, 22)
def rm_shares : mj_Y := (yX12_shares, cX12_shares, 5, (some .boolean), 1, 22)
def rm_copy : mj_Y := (yX12_copy, cX12_copy, 3, (some .int), 1, 22)
def rm_comesFrom : mj_Y := (yX12_comesFrom, cX12_comesFrom, 7, none, 0, 0)
def rm_region : mj_Y := (yX12_region, cX12_region, 12, (some .int), 3, 68)
def rm_turn : mj_Y := (yX12_turn, cX12_turn, 6, (some .boolean), 2, 44)
def rm_paste : mj_Y := (yX12_paste, cX12_paste, 9, (some .int), 3, 74)
def rm_comes : mj_Y := (yX12_comes, cX12_comes, 7, (some .int), 2, 48)
def rm_isRule : mj_Y := (yX12_isRule, cX12_isRule, 2, (some .boolean), 0, 0)
def rm_rule : mj_Y := (yX12_rule, cX12_rule, 4, (some .int), 0, 0)
def rm_becomes : mj_Y := (yX12_becomes, cX12_becomes, 7, (some .boolean), 1, 22)
def rm_grow : mj_Y := (yX12_grow, cX12_grow, 11, (some .int), 4, 101)
def rm_grown : mj_Y := (yX12_grown, cX12_grown, 13, (some .boolean), 3, 69)
def rm_block : mj_Y := (yX12_block, cX12_block, 6, (some .int), 2, 44)
def rm_sum : mj_Y := (yX12_sum, cX12_sum, 4, (some .long), 0, 0)
def rm_foretold : mj_Y := (yX12_foretold, cX12_foretold, 9, (some .long), 1, 23)
def rm_count : mj_Y := (yX12_count, cX12_count, 8, (some .int), 1, 22)
def rm_fits : mj_Y := (yX12_fits, cX12_fits, 10, (some .int), 3, 68)
def rm_period : mj_Y := (yX12_period, cX12_period, 4, (some .int), 4, 95)
def rm_comesAgain : mj_Y := (yX12_comesAgain, cX12_comesAgain, 8, (some .boolean), 3, 68)
def rm_isFull : mj_Y := (yX12_isFull, cX12_isFull, 4, (some .boolean), 1, 22)
def rm_wide : mj_Y := (yX12_wide, cX12_wide, 2, (some .int), 1, 22)
def rm_movedCell : mj_Y := (yX12_movedCell, cX12_movedCell, 5, (some .int), 3, 68)
def rm_isMoved : mj_Y := (yX12_isMoved, cX12_isMoved, 8, (some .boolean), 4, 92)
def rm_kept : mj_Y := (yX12_kept, cX12_kept, 4, (some .int), 5, 119)
def rm_congruent : mj_Y := (yX12_congruent, cX12_congruent, 4, (some .int), 5, 119)
def rm_isFound : mj_Y := (yX12_isFound, cX12_isFound, 10, (some .boolean), 4, 92)
def rm_find : mj_Y := (yX12_find, cX12_find, 9, (some .int), 5, 121)
def rm_isFloor : mj_Y := (yX12_isFloor, cX12_isFloor, 2, (some .boolean), 0, 0)
def rm_floor : mj_Y := (yX12_floor, cX12_floor, 4, (some .int), 0, 0)
def rm_isPlace : mj_Y := (yX12_isPlace, cX12_isPlace, 4, (some .boolean), 1, 21)
def rm_place : mj_Y := (yX12_place, cX12_place, 7, (some .boolean), 2, 44)
def rm_stock : mj_Y := (yX12_stock, cX12_stock, 4, (some .boolean), 1, 21)
def rm_shown : mj_Y := (yX12_shown, cX12_shown, 6, (some .int), 2, 44)
def rm_lyingAt : mj_Y := (yX12_lyingAt, cX12_lyingAt, 4, (some .int), 0, 0)
def rm_mayLie : mj_Y := (yX12_mayLie, cX12_mayLie, 5, (some .boolean), 2, 47)
def rm_nextFitting : mj_Y := (yX12_nextFitting, cX12_nextFitting, 5, (some .int), 3, 71)
def rm_fitting : mj_Y := (yX12_fitting, cX12_fitting, 4, (some .int), 4, 95)
def rm_starts : mj_Y := (yX12_starts, cX12_starts, 7, (some .boolean), 3, 71)
def rm_show : mj_Y := (yX12_show, cX12_show, 2, none, 0, 0)
def rm_nextPlace : mj_Y := (yX12_nextPlace, cX12_nextPlace, 5, (some .int), 5, 118)
def rm_lay : mj_Y := (yX12_lay, cX12_lay, 3, none, 1, 22)
def rm_takeBack : mj_Y := (yX12_takeBack, cX12_takeBack, 3, none, 1, 20)
def rm_leastCost : mj_Y := (yX12_leastCost, cX12_leastCost, 4, (some .int), 0, 0)
def rm_search : mj_Y := (yX12_search, cX12_search, 7, none, 6, 142)
def rm_fill : mj_Y := (yX12_fill, cX12_fill, 2, (some .int), 7, 168)
def rm_fills : mj_Y := (yX12_fills, cX12_fills, 3, (some .int), 7, 168)
def rm_cheapest : mj_Y := (yX12_cheapest, cX12_cheapest, 2, (some .int), 7, 168)
def rm_forced : mj_Y := (yX12_forced, cX12_forced, 7, (some .int), 5, 118)
def rm_about : mj_Y := (yX12_about, cX12_about, 2, (some .int), 0, 0)
def jd_ntzI : mj_Y := (yJ6_numberOfTrailingZeros_0f7a4, cJ6_numberOfTrailingZeros_0f7a4, 2, (some .int), 0, 0)
def jd_bcI : mj_Y := (yJ6_bitCount_0f7a4, cJ6_bitCount_0f7a4, 1, (some .int), 0, 0)
def jd_ntzL : mj_Y := (yJ13_numberOfTrailingZeros_95d88, cJ13_numberOfTrailingZeros_95d88, 3, (some .int), 1, 21)
def jd_bcL : mj_Y := (yJ13_bitCount_95d88, cJ13_bitCount_95d88, 2, (some .int), 0, 0)
def jd_floorDiv : mj_Y := (yJ9_floorDiv_7cf53, cJ9_floorDiv_7cf53, 3, (some .int), 0, 0)
def jd_floorMod : mj_Y := (yJ9_floorMod_7cf53, cJ9_floorMod_7cf53, 3, (some .int), 0, 0)
def jd_max : mj_Y := (yJ9_max_7cf53, cJ9_max_7cf53, 2, (some .int), 0, 0)
def jd_min : mj_Y := (yJ9_min_7cf53, cJ9_min_7cf53, 2, (some .int), 0, 0)
def jd_fillL : mj_Y := (yJ7_fill_d0a16, cJ7_fill_d0a16, 5, none, 0, 0)
def jd_fillI : mj_Y := (yJ7_fill_53178, cJ7_fill_53178, 4, none, 0, 0)
def law : mj_Y := (yL_law, cL_law, 4, (some .boolean), 9, 208)
theorem pm_bl_1 : Cond.methodLink RX0 1 objectInit ∈ lw_g := lw_a1 220 (by decide +kernel) rfl
theorem p0_jd_max : plainFor jd_max.1 = true ∧ jd_max.1 ≠ yL_law ∧ Cond.code jd_max.1 jd_max.2.1 jd_max.2.2.1 jd_max.2.2.2.1 ∈ lw_g ∧ Cond.initialized jd_max.1.cls ∈ lw_g ∧ (jd_max.1.cls ≠ "java/lang/invoke/MethodHandle" ∧ jd_max.1.cls ≠ "java/lang/invoke/VarHandle" ∧ (parseMethodDescriptor jd_max.1.desc).map (fun d => d.parameters.length) = some 2) := ⟨by decide +kernel, by decide +kernel, lw_a1 223 (by decide +kernel) rfl, lw_a1 9 (by decide +kernel) rfl, by decide +kernel, by decide +kernel, by decide +kernel⟩
theorem pk_bl_init_7 : mj_KS bl_init jd_max 7 2 := ⟨⟨p0_jd_max.1, p0_jd_max.2.1, p0_jd_max.2.2.1, p0_jd_max.2.2.2.1, p0_jd_max.2.2.2.2, by decide⟩, lw_a1 221 (by decide +kernel) rfl, lw_a1 222 (by decide +kernel) rfl⟩
theorem pf_bl_13 : mj_F RX0 13 0 2 3 true (.array .int) := ⟨_, _, rfl, by decide, rfl, rfl, rfl, lw_a1 231 (by decide +kernel) rfl⟩
theorem pf_bl_19 : mj_F RX0 19 0 0 3 false .int := ⟨_, _, rfl, by decide, rfl, rfl, rfl, lw_a1 224 (by decide +kernel) rfl⟩
theorem pf_bl_23 : mj_F RX0 23 0 1 3 false .int := ⟨_, _, rfl, by decide, rfl, rfl, rfl, lw_a1 227 (by decide +kernel) rfl⟩
theorem p0_bl_hasPlace : plainFor bl_hasPlace.1 = true ∧ bl_hasPlace.1 ≠ yL_law ∧ Cond.code bl_hasPlace.1 bl_hasPlace.2.1 bl_hasPlace.2.2.1 bl_hasPlace.2.2.2.1 ∈ lw_g ∧ Cond.initialized bl_hasPlace.1.cls ∈ lw_g ∧ (bl_hasPlace.1.cls ≠ "java/lang/invoke/MethodHandle" ∧ bl_hasPlace.1.cls ≠ "java/lang/invoke/VarHandle" ∧ (parseMethodDescriptor bl_hasPlace.1.desc).map (fun d => d.parameters.length) = some 2) := ⟨by decide +kernel, by decide +kernel, lw_a3 93 (by decide +kernel) rfl, lw_a1 8 (by decide +kernel) rfl, by decide +kernel, by decide +kernel, by decide +kernel⟩
theorem pk_bl_cellAt_26 : mj_KV bl_cellAt bl_hasPlace 26 0 2 := ⟨⟨p0_bl_hasPlace.1, p0_bl_hasPlace.2.1, p0_bl_hasPlace.2.2.1, p0_bl_hasPlace.2.2.2.1, p0_bl_hasPlace.2.2.2.2, by decide⟩, lw_a3 90 (by decide +kernel) rfl, lw_a3 92 (by decide +kernel) rfl, lw_a0 8 (by decide +kernel) rfl, _, _, rfl⟩
theorem pk_bl_setCell_26 : mj_KV bl_setCell bl_hasPlace 26 0 2 := ⟨⟨p0_bl_hasPlace.1, p0_bl_hasPlace.2.1, p0_bl_hasPlace.2.2.1, p0_bl_hasPlace.2.2.2.1, p0_bl_hasPlace.2.2.2.2, by decide⟩, lw_a3 90 (by decide +kernel) rfl, lw_a3 92 (by decide +kernel) rfl, lw_a0 8 (by decide +kernel) rfl, _, _, rfl⟩
theorem p0_bl_cellAt : plainFor bl_cellAt.1 = true ∧ bl_cellAt.1 ≠ yL_law ∧ Cond.code bl_cellAt.1 bl_cellAt.2.1 bl_cellAt.2.2.1 bl_cellAt.2.2.2.1 ∈ lw_g ∧ Cond.initialized bl_cellAt.1.cls ∈ lw_g ∧ (bl_cellAt.1.cls ≠ "java/lang/invoke/MethodHandle" ∧ bl_cellAt.1.cls ≠ "java/lang/invoke/VarHandle" ∧ (parseMethodDescriptor bl_cellAt.1.desc).map (fun d => d.parameters.length) = some 2) := ⟨by decide +kernel, by decide +kernel, lw_a3 101 (by decide +kernel) rfl, lw_a1 8 (by decide +kernel) rfl, by decide +kernel, by decide +kernel, by decide +kernel⟩
theorem pk_bl_filledCells_32 : mj_KV bl_filledCells bl_cellAt 32 0 2 := ⟨⟨p0_bl_cellAt.1, p0_bl_cellAt.2.1, p0_bl_cellAt.2.2.1, p0_bl_cellAt.2.2.2.1, p0_bl_cellAt.2.2.2.2, by decide⟩, lw_a3 98 (by decide +kernel) rfl, lw_a3 99 (by decide +kernel) rfl, lw_a3 100 (by decide +kernel) rfl, _, _, rfl⟩
theorem p0_pa_cellAt : plainFor pa_cellAt.1 = true ∧ pa_cellAt.1 ≠ yL_law ∧ Cond.code pa_cellAt.1 pa_cellAt.2.1 pa_cellAt.2.2.1 pa_cellAt.2.2.2.1 ∈ lw_g ∧ Cond.initialized pa_cellAt.1.cls ∈ lw_g ∧ (pa_cellAt.1.cls ≠ "java/lang/invoke/MethodHandle" ∧ pa_cellAt.1.cls ≠ "java/lang/invoke/VarHandle" ∧ (parseMethodDescriptor pa_cellAt.1.desc).map (fun d => d.parameters.length) = some 2) := ⟨by decide +kernel, by decide +kernel, lw_a2 209 (by decide +kernel) rfl, lw_a1 11 (by decide +kernel) rfl, by decide +kernel, by decide +kernel, by decide +kernel⟩
theorem pk_bl_takePattern_35 : mj_KV bl_takePattern pa_cellAt 35 6 2 := ⟨⟨p0_pa_cellAt.1, p0_pa_cellAt.2.1, p0_pa_cellAt.2.2.1, p0_pa_cellAt.2.2.2.1, p0_pa_cellAt.2.2.2.2, by decide⟩, lw_a3 85 (by decide +kernel) rfl, lw_a2 207 (by decide +kernel) rfl, lw_a2 208 (by decide +kernel) rfl, _, _, rfl⟩
theorem p0_bl_setCell : plainFor bl_setCell.1 = true ∧ bl_setCell.1 ≠ yL_law ∧ Cond.code bl_setCell.1 bl_setCell.2.1 bl_setCell.2.2.1 bl_setCell.2.2.2.1 ∈ lw_g ∧ Cond.initialized bl_setCell.1.cls ∈ lw_g ∧ (bl_setCell.1.cls ≠ "java/lang/invoke/MethodHandle" ∧ bl_setCell.1.cls ≠ "java/lang/invoke/VarHandle" ∧ (parseMethodDescriptor bl_setCell.1.desc).map (fun d => d.parameters.length) = some 3) := ⟨by decide +kernel, by decide +kernel, lw_a3 89 (by decide +kernel) rfl, lw_a1 8 (by decide +kernel) rfl, by decide +kernel, by decide +kernel, by decide +kernel⟩
theorem pk_bl_takePattern_40 : mj_KV bl_takePattern bl_setCell 40 0 3 := ⟨⟨p0_bl_setCell.1, p0_bl_setCell.2.1, p0_bl_setCell.2.2.1, p0_bl_setCell.2.2.2.1, p0_bl_setCell.2.2.2.2, by decide⟩, lw_a3 86 (by decide +kernel) rfl, lw_a3 88 (by decide +kernel) rfl, lw_a0 7 (by decide +kernel) rfl, _, _, rfl⟩
theorem pf_bl_44 : mj_F RX0 44 6 2 3 false .int := ⟨_, _, rfl, by decide, rfl, rfl, rfl, lw_a2 122 (by decide +kernel) rfl⟩
theorem p0_pa_lengthAt : plainFor pa_lengthAt.1 = true ∧ pa_lengthAt.1 ≠ yL_law ∧ Cond.code pa_lengthAt.1 pa_lengthAt.2.1 pa_lengthAt.2.2.1 pa_lengthAt.2.2.2.1 ∈ lw_g ∧ Cond.initialized pa_lengthAt.1.cls ∈ lw_g ∧ (pa_lengthAt.1.cls ≠ "java/lang/invoke/MethodHandle" ∧ pa_lengthAt.1.cls ≠ "java/lang/invoke/VarHandle" ∧ (parseMethodDescriptor pa_lengthAt.1.desc).map (fun d => d.parameters.length) = some 1) := ⟨by decide +kernel, by decide +kernel, lw_a3 52 (by decide +kernel) rfl, lw_a1 11 (by decide +kernel) rfl, by decide +kernel, by decide +kernel, by decide +kernel⟩
theorem pk_bl_takeWhole_47 : mj_KV bl_takeWhole pa_lengthAt 47 6 1 := ⟨⟨p0_pa_lengthAt.1, p0_pa_lengthAt.2.1, p0_pa_lengthAt.2.2.1, p0_pa_lengthAt.2.2.2.1, p0_pa_lengthAt.2.2.2.2, by decide⟩, lw_a4 59 (by decide +kernel) rfl, lw_a3 50 (by decide +kernel) rfl, lw_a3 51 (by decide +kernel) rfl, _, _, rfl⟩
theorem p0_bl_takePattern : plainFor bl_takePattern.1 = true ∧ bl_takePattern.1 ≠ yL_law ∧ Cond.code bl_takePattern.1 bl_takePattern.2.1 bl_takePattern.2.2.1 bl_takePattern.2.2.2.1 ∈ lw_g ∧ Cond.initialized bl_takePattern.1.cls ∈ lw_g ∧ (bl_takePattern.1.cls ≠ "java/lang/invoke/MethodHandle" ∧ bl_takePattern.1.cls ≠ "java/lang/invoke/VarHandle" ∧ (parseMethodDescriptor bl_takePattern.1.desc).map (fun d => d.parameters.length) = some 5) := ⟨by decide +kernel, by decide +kernel, lw_a3 84 (by decide +kernel) rfl, lw_a1 8 (by decide +kernel) rfl, by decide +kernel, by decide +kernel, by decide +kernel⟩
theorem pk_bl_takeWhole_51 : mj_KV bl_takeWhole bl_takePattern 51 0 5 := ⟨⟨p0_bl_takePattern.1, p0_bl_takePattern.2.1, p0_bl_takePattern.2.2.1, p0_bl_takePattern.2.2.2.1, p0_bl_takePattern.2.2.2.2, by decide⟩, lw_a4 60 (by decide +kernel) rfl, lw_a3 82 (by decide +kernel) rfl, lw_a3 83 (by decide +kernel) rfl, _, _, rfl⟩
theorem pk_bl_takeMoved_32 : mj_KV bl_takeMoved bl_cellAt 32 0 2 := ⟨⟨p0_bl_cellAt.1, p0_bl_cellAt.2.1, p0_bl_cellAt.2.2.1, p0_bl_cellAt.2.2.2.1, p0_bl_cellAt.2.2.2.2, by decide⟩, lw_a3 98 (by decide +kernel) rfl, lw_a3 99 (by decide +kernel) rfl, lw_a3 100 (by decide +kernel) rfl, _, _, rfl⟩
theorem p0_ki_movedCell : plainFor ki_movedCell.1 = true ∧ ki_movedCell.1 ≠ yL_law ∧ Cond.code ki_movedCell.1 ki_movedCell.2.1 ki_movedCell.2.2.1 ki_movedCell.2.2.2.1 ∈ lw_g ∧ Cond.initialized ki_movedCell.1.cls ∈ lw_g ∧ (ki_movedCell.1.cls ≠ "java/lang/invoke/MethodHandle" ∧ ki_movedCell.1.cls ≠ "java/lang/invoke/VarHandle" ∧ (parseMethodDescriptor ki_movedCell.1.desc).map (fun d => d.parameters.length) = some 2) := ⟨by decide +kernel, by decide +kernel, lw_a3 117 (by decide +kernel) rfl, lw_a1 2 (by decide +kernel) rfl, by decide +kernel, by decide +kernel, by decide +kernel⟩
theorem pk_bl_takeMoved_55 : mj_KV bl_takeMoved ki_movedCell 55 5 2 := ⟨⟨p0_ki_movedCell.1, p0_ki_movedCell.2.1, p0_ki_movedCell.2.2.1, p0_ki_movedCell.2.2.2.1, p0_ki_movedCell.2.2.2.2, by decide⟩, lw_a3 114 (by decide +kernel) rfl, lw_a3 115 (by decide +kernel) rfl, lw_a3 116 (by decide +kernel) rfl, _, _, rfl⟩
theorem pk_bl_takeMoved_40 : mj_KV bl_takeMoved bl_setCell 40 0 3 := ⟨⟨p0_bl_setCell.1, p0_bl_setCell.2.1, p0_bl_setCell.2.2.1, p0_bl_setCell.2.2.2.1, p0_bl_setCell.2.2.2.2, by decide⟩, lw_a3 86 (by decide +kernel) rfl, lw_a3 88 (by decide +kernel) rfl, lw_a0 7 (by decide +kernel) rfl, _, _, rfl⟩
theorem pm_bo_3 : Cond.methodLink RX1 3 objectInit ∈ lw_g := lw_a1 84 (by decide +kernel) rfl
theorem pf_bo_11 : mj_F RX1 11 1 4 11 true (.array .int) := ⟨_, _, rfl, by decide, rfl, rfl, rfl, lw_a1 91 (by decide +kernel) rfl⟩
theorem pf_bo_17 : mj_F RX1 17 1 5 11 true (.array .boolean) := ⟨_, _, rfl, by decide, rfl, rfl, rfl, lw_a1 92 (by decide +kernel) rfl⟩
theorem pf_bo_21 : mj_F RX1 21 1 6 11 true (.array .int) := ⟨_, _, rfl, by decide, rfl, rfl, rfl, lw_a1 93 (by decide +kernel) rfl⟩
theorem pf_bo_24 : mj_F RX1 24 1 7 11 true (.array .int) := ⟨_, _, rfl, by decide, rfl, rfl, rfl, lw_a1 94 (by decide +kernel) rfl⟩
theorem pf_bo_29 : mj_F RX1 29 1 8 11 true (.array .int) := ⟨_, _, rfl, by decide, rfl, rfl, rfl, lw_a1 95 (by decide +kernel) rfl⟩
theorem pf_bo_34 : mj_F RX1 34 1 9 11 true (.array .long) := ⟨_, _, rfl, by decide, rfl, rfl, rfl, lw_a1 96 (by decide +kernel) rfl⟩
theorem pf_bo_38 : mj_F RX1 38 1 10 11 true (.array .int) := ⟨_, _, rfl, by decide, rfl, rfl, rfl, lw_a1 97 (by decide +kernel) rfl⟩
theorem pf_bo_41 : mj_F RX1 41 1 0 11 true (.object "TileOffice$Choices") := ⟨_, _, rfl, by decide, rfl, rfl, rfl, lw_a1 85 (by decide +kernel) rfl⟩
theorem p0_ch_gather : plainFor ch_gather.1 = true ∧ ch_gather.1 ≠ yL_law ∧ Cond.code ch_gather.1 ch_gather.2.1 ch_gather.2.2.1 ch_gather.2.2.2.1 ∈ lw_g ∧ Cond.initialized ch_gather.1.cls ∈ lw_g ∧ (ch_gather.1.cls ≠ "java/lang/invoke/MethodHandle" ∧ ch_gather.1.cls ≠ "java/lang/invoke/VarHandle" ∧ (parseMethodDescriptor ch_gather.1.desc).map (fun d => d.parameters.length) = some 1) := ⟨by decide +kernel, by decide +kernel, lw_a4 175 (by decide +kernel) rfl, lw_a1 4 (by decide +kernel) rfl, by decide +kernel, by decide +kernel, by decide +kernel⟩
theorem pk_bo_begin_45 : mj_KV bo_begin ch_gather 45 2 1 := ⟨⟨p0_ch_gather.1, p0_ch_gather.2.1, p0_ch_gather.2.2.1, p0_ch_gather.2.2.2.1, p0_ch_gather.2.2.2.2, by decide⟩, lw_a4 172 (by decide +kernel) rfl, lw_a4 173 (by decide +kernel) rfl, lw_a4 174 (by decide +kernel) rfl, _, _, rfl⟩
theorem pf_bo_49 : mj_F RX1 49 3 0 5 true .int := ⟨_, _, rfl, by decide, rfl, rfl, rfl, lw_a4 114 (by decide +kernel) rfl⟩
theorem pf_bo_53 : mj_F RX1 53 1 2 11 false .int := ⟨_, _, rfl, by decide, rfl, rfl, rfl, lw_a1 89 (by decide +kernel) rfl⟩
theorem pf_bo_54 : mj_F RX1 54 3 1 5 true .int := ⟨_, _, rfl, by decide, rfl, rfl, rfl, lw_a4 116 (by decide +kernel) rfl⟩
theorem pf_bo_57 : mj_F RX1 57 1 3 11 false .int := ⟨_, _, rfl, by decide, rfl, rfl, rfl, lw_a1 90 (by decide +kernel) rfl⟩
theorem pf_bo_58 : mj_F RX1 58 1 1 11 false .int := ⟨_, _, rfl, by decide, rfl, rfl, rfl, lw_a1 87 (by decide +kernel) rfl⟩
theorem p0_fl_placeAt : plainFor fl_placeAt.1 = true ∧ fl_placeAt.1 ≠ yL_law ∧ Cond.code fl_placeAt.1 fl_placeAt.2.1 fl_placeAt.2.2.1 fl_placeAt.2.2.2.1 ∈ lw_g ∧ Cond.initialized fl_placeAt.1.cls ∈ lw_g ∧ (fl_placeAt.1.cls ≠ "java/lang/invoke/MethodHandle" ∧ fl_placeAt.1.cls ≠ "java/lang/invoke/VarHandle" ∧ (parseMethodDescriptor fl_placeAt.1.desc).map (fun d => d.parameters.length) = some 1) := ⟨by decide +kernel, by decide +kernel, lw_a4 198 (by decide +kernel) rfl, lw_a1 17 (by decide +kernel) rfl, by decide +kernel, by decide +kernel, by decide +kernel⟩
theorem pk_bo_begin_61 : mj_KV bo_begin fl_placeAt 61 3 1 := ⟨⟨p0_fl_placeAt.1, p0_fl_placeAt.2.1, p0_fl_placeAt.2.2.1, p0_fl_placeAt.2.2.2.1, p0_fl_placeAt.2.2.2.2, by decide⟩, lw_a4 195 (by decide +kernel) rfl, lw_a4 196 (by decide +kernel) rfl, lw_a4 197 (by decide +kernel) rfl, _, _, rfl⟩
theorem p0_bo_has : plainFor bo_has.1 = true ∧ bo_has.1 ≠ yL_law ∧ Cond.code bo_has.1 bo_has.2.1 bo_has.2.2.1 bo_has.2.2.2.1 ∈ lw_g ∧ Cond.initialized bo_has.1.cls ∈ lw_g ∧ (bo_has.1.cls ≠ "java/lang/invoke/MethodHandle" ∧ bo_has.1.cls ≠ "java/lang/invoke/VarHandle" ∧ (parseMethodDescriptor bo_has.1.desc).map (fun d => d.parameters.length) = some 1) := ⟨by decide +kernel, by decide +kernel, lw_a4 202 (by decide +kernel) rfl, lw_a1 3 (by decide +kernel) rfl, by decide +kernel, by decide +kernel, by decide +kernel⟩
theorem pk_bo_begin_65 : mj_KV bo_begin bo_has 65 1 1 := ⟨⟨p0_bo_has.1, p0_bo_has.2.1, p0_bo_has.2.2.1, p0_bo_has.2.2.2.1, p0_bo_has.2.2.2.2, by decide⟩, lw_a4 199 (by decide +kernel) rfl, lw_a4 201 (by decide +kernel) rfl, lw_a0 26 (by decide +kernel) rfl, _, _, rfl⟩
theorem p0_fl_stockOf : plainFor fl_stockOf.1 = true ∧ fl_stockOf.1 ≠ yL_law ∧ Cond.code fl_stockOf.1 fl_stockOf.2.1 fl_stockOf.2.2.1 fl_stockOf.2.2.2.1 ∈ lw_g ∧ Cond.initialized fl_stockOf.1.cls ∈ lw_g ∧ (fl_stockOf.1.cls ≠ "java/lang/invoke/MethodHandle" ∧ fl_stockOf.1.cls ≠ "java/lang/invoke/VarHandle" ∧ (parseMethodDescriptor fl_stockOf.1.desc).map (fun d => d.parameters.length) = some 1) := ⟨by decide +kernel, by decide +kernel, lw_a4 180 (by decide +kernel) rfl, lw_a1 17 (by decide +kernel) rfl, by decide +kernel, by decide +kernel, by decide +kernel⟩
theorem pk_bo_begin_69 : mj_KV bo_begin fl_stockOf 69 3 1 := ⟨⟨p0_fl_stockOf.1, p0_fl_stockOf.2.1, p0_fl_stockOf.2.2.1, p0_fl_stockOf.2.2.2.1, p0_fl_stockOf.2.2.2.2, by decide⟩, lw_a4 203 (by decide +kernel) rfl, lw_a4 178 (by decide +kernel) rfl, lw_a4 179 (by decide +kernel) rfl, _, _, rfl⟩
theorem p0_ch_withColour : plainFor ch_withColour.1 = true ∧ ch_withColour.1 ≠ yL_law ∧ Cond.code ch_withColour.1 ch_withColour.2.1 ch_withColour.2.2.1 ch_withColour.2.2.2.1 ∈ lw_g ∧ Cond.initialized ch_withColour.1.cls ∈ lw_g ∧ (ch_withColour.1.cls ≠ "java/lang/invoke/MethodHandle" ∧ ch_withColour.1.cls ≠ "java/lang/invoke/VarHandle" ∧ (parseMethodDescriptor ch_withColour.1.desc).map (fun d => d.parameters.length) = some 3) := ⟨by decide +kernel, by decide +kernel, lw_a4 207 (by decide +kernel) rfl, lw_a1 4 (by decide +kernel) rfl, by decide +kernel, by decide +kernel, by decide +kernel⟩
theorem pk_bo_begin_72 : mj_KV bo_begin ch_withColour 72 2 3 := ⟨⟨p0_ch_withColour.1, p0_ch_withColour.2.1, p0_ch_withColour.2.2.1, p0_ch_withColour.2.2.2.1, p0_ch_withColour.2.2.2.2, by decide⟩, lw_a4 204 (by decide +kernel) rfl, lw_a4 205 (by decide +kernel) rfl, lw_a4 206 (by decide +kernel) rfl, _, _, rfl⟩
theorem p0_bo_lookAround : plainFor bo_lookAround.1 = true ∧ bo_lookAround.1 ≠ yL_law ∧ Cond.code bo_lookAround.1 bo_lookAround.2.1 bo_lookAround.2.2.1 bo_lookAround.2.2.2.1 ∈ lw_g ∧ Cond.initialized bo_lookAround.1.cls ∈ lw_g ∧ (bo_lookAround.1.cls ≠ "java/lang/invoke/MethodHandle" ∧ bo_lookAround.1.cls ≠ "java/lang/invoke/VarHandle" ∧ (parseMethodDescriptor bo_lookAround.1.desc).map (fun d => d.parameters.length) = some 1) := ⟨by decide +kernel, by decide +kernel, lw_a4 211 (by decide +kernel) rfl, lw_a1 3 (by decide +kernel) rfl, by decide +kernel, by decide +kernel, by decide +kernel⟩
theorem pk_bo_begin_76 : mj_KV bo_begin bo_lookAround 76 1 1 := ⟨⟨p0_bo_lookAround.1, p0_bo_lookAround.2.1, p0_bo_lookAround.2.2.1, p0_bo_lookAround.2.2.2.1, p0_bo_lookAround.2.2.2.2, by decide⟩, lw_a4 208 (by decide +kernel) rfl, lw_a4 210 (by decide +kernel) rfl, lw_a0 27 (by decide +kernel) rfl, _, _, rfl⟩
theorem p0_bo_recountAll : plainFor bo_recountAll.1 = true ∧ bo_recountAll.1 ≠ yL_law ∧ Cond.code bo_recountAll.1 bo_recountAll.2.1 bo_recountAll.2.2.1 bo_recountAll.2.2.2.1 ∈ lw_g ∧ Cond.initialized bo_recountAll.1.cls ∈ lw_g ∧ (bo_recountAll.1.cls ≠ "java/lang/invoke/MethodHandle" ∧ bo_recountAll.1.cls ≠ "java/lang/invoke/VarHandle" ∧ (parseMethodDescriptor bo_recountAll.1.desc).map (fun d => d.parameters.length) = some 0) := ⟨by decide +kernel, by decide +kernel, lw_a4 224 (by decide +kernel) rfl, lw_a1 3 (by decide +kernel) rfl, by decide +kernel, by decide +kernel, by decide +kernel⟩
theorem pk_bo_begin_80 : mj_KV bo_begin bo_recountAll 80 1 0 := ⟨⟨p0_bo_recountAll.1, p0_bo_recountAll.2.1, p0_bo_recountAll.2.2.1, p0_bo_recountAll.2.2.2.1, p0_bo_recountAll.2.2.2.2, by decide⟩, lw_a4 221 (by decide +kernel) rfl, lw_a4 223 (by decide +kernel) rfl, lw_a0 30 (by decide +kernel) rfl, _, _, rfl⟩
theorem p0_bo_beside : plainFor bo_beside.1 = true ∧ bo_beside.1 ≠ yL_law ∧ Cond.code bo_beside.1 bo_beside.2.1 bo_beside.2.2.1 bo_beside.2.2.2.1 ∈ lw_g ∧ Cond.initialized bo_beside.1.cls ∈ lw_g ∧ (bo_beside.1.cls ≠ "java/lang/invoke/MethodHandle" ∧ bo_beside.1.cls ≠ "java/lang/invoke/VarHandle" ∧ (parseMethodDescriptor bo_beside.1.desc).map (fun d => d.parameters.length) = some 2) := ⟨by decide +kernel, by decide +kernel, lw_a4 215 (by decide +kernel) rfl, lw_a1 3 (by decide +kernel) rfl, by decide +kernel, by decide +kernel, by decide +kernel⟩
theorem pk_bo_lookAround_83 : mj_KV bo_lookAround bo_beside 83 1 2 := ⟨⟨p0_bo_beside.1, p0_bo_beside.2.1, p0_bo_beside.2.2.1, p0_bo_beside.2.2.2.1, p0_bo_beside.2.2.2.2, by decide⟩, lw_a4 212 (by decide +kernel) rfl, lw_a4 214 (by decide +kernel) rfl, lw_a0 28 (by decide +kernel) rfl, _, _, rfl⟩
theorem p0_bo_codeAt : plainFor bo_codeAt.1 = true ∧ bo_codeAt.1 ≠ yL_law ∧ Cond.code bo_codeAt.1 bo_codeAt.2.1 bo_codeAt.2.2.1 bo_codeAt.2.2.2.1 ∈ lw_g ∧ Cond.initialized bo_codeAt.1.cls ∈ lw_g ∧ (bo_codeAt.1.cls ≠ "java/lang/invoke/MethodHandle" ∧ bo_codeAt.1.cls ≠ "java/lang/invoke/VarHandle" ∧ (parseMethodDescriptor bo_codeAt.1.desc).map (fun d => d.parameters.length) = some 1) := ⟨by decide +kernel, by decide +kernel, lw_a4 219 (by decide +kernel) rfl, lw_a1 3 (by decide +kernel) rfl, by decide +kernel, by decide +kernel, by decide +kernel⟩
theorem pk_bo_lookAround_87 : mj_KV bo_lookAround bo_codeAt 87 1 1 := ⟨⟨p0_bo_codeAt.1, p0_bo_codeAt.2.1, p0_bo_codeAt.2.2.1, p0_bo_codeAt.2.2.2.1, p0_bo_codeAt.2.2.2.2, by decide⟩, lw_a4 216 (by decide +kernel) rfl, lw_a4 218 (by decide +kernel) rfl, lw_a0 29 (by decide +kernel) rfl, _, _, rfl⟩
theorem p0_ch_colourOf : plainFor ch_colourOf.1 = true ∧ ch_colourOf.1 ≠ yL_law ∧ Cond.code ch_colourOf.1 ch_colourOf.2.1 ch_colourOf.2.2.1 ch_colourOf.2.2.2.1 ∈ lw_g ∧ Cond.initialized ch_colourOf.1.cls ∈ lw_g ∧ (ch_colourOf.1.cls ≠ "java/lang/invoke/MethodHandle" ∧ ch_colourOf.1.cls ≠ "java/lang/invoke/VarHandle" ∧ (parseMethodDescriptor ch_colourOf.1.desc).map (fun d => d.parameters.length) = some 2) := ⟨by decide +kernel, by decide +kernel, lw_a4 189 (by decide +kernel) rfl, lw_a1 4 (by decide +kernel) rfl, by decide +kernel, by decide +kernel, by decide +kernel⟩
theorem pk_bo_lookAround_90 : mj_KV bo_lookAround ch_colourOf 90 2 2 := ⟨⟨p0_ch_colourOf.1, p0_ch_colourOf.2.1, p0_ch_colourOf.2.2.1, p0_ch_colourOf.2.2.2.1, p0_ch_colourOf.2.2.2.2, by decide⟩, lw_a4 220 (by decide +kernel) rfl, lw_a4 187 (by decide +kernel) rfl, lw_a4 188 (by decide +kernel) rfl, _, _, rfl⟩
theorem pk_bo_givenOnesFit_90 : mj_KV bo_givenOnesFit ch_colourOf 90 2 2 := ⟨⟨p0_ch_colourOf.1, p0_ch_colourOf.2.1, p0_ch_colourOf.2.2.1, p0_ch_colourOf.2.2.2.1, p0_ch_colourOf.2.2.2.2, by decide⟩, lw_a4 220 (by decide +kernel) rfl, lw_a4 187 (by decide +kernel) rfl, lw_a4 188 (by decide +kernel) rfl, _, _, rfl⟩
theorem pk_bo_fittingWord_72 : mj_KV bo_fittingWord ch_withColour 72 2 3 := ⟨⟨p0_ch_withColour.1, p0_ch_withColour.2.1, p0_ch_withColour.2.2.1, p0_ch_withColour.2.2.2.1, p0_ch_withColour.2.2.2.2, by decide⟩, lw_a4 204 (by decide +kernel) rfl, lw_a4 205 (by decide +kernel) rfl, lw_a4 206 (by decide +kernel) rfl, _, _, rfl⟩
theorem p0_bo_isWaiting : plainFor bo_isWaiting.1 = true ∧ bo_isWaiting.1 ≠ yL_law ∧ Cond.code bo_isWaiting.1 bo_isWaiting.2.1 bo_isWaiting.2.2.1 bo_isWaiting.2.2.2.1 ∈ lw_g ∧ Cond.initialized bo_isWaiting.1.cls ∈ lw_g ∧ (bo_isWaiting.1.cls ≠ "java/lang/invoke/MethodHandle" ∧ bo_isWaiting.1.cls ≠ "java/lang/invoke/VarHandle" ∧ (parseMethodDescriptor bo_isWaiting.1.desc).map (fun d => d.parameters.length) = some 1) := ⟨by decide +kernel, by decide +kernel, lw_a4 232 (by decide +kernel) rfl, lw_a1 3 (by decide +kernel) rfl, by decide +kernel, by decide +kernel, by decide +kernel⟩
theorem pk_bo_recount_93 : mj_KV bo_recount bo_isWaiting 93 1 1 := ⟨⟨p0_bo_isWaiting.1, p0_bo_isWaiting.2.1, p0_bo_isWaiting.2.2.1, p0_bo_isWaiting.2.2.2.1, p0_bo_isWaiting.2.2.2.2, by decide⟩, lw_a4 229 (by decide +kernel) rfl, lw_a4 231 (by decide +kernel) rfl, lw_a0 32 (by decide +kernel) rfl, _, _, rfl⟩
theorem p0_bo_fittingWord : plainFor bo_fittingWord.1 = true ∧ bo_fittingWord.1 ≠ yL_law ∧ Cond.code bo_fittingWord.1 bo_fittingWord.2.1 bo_fittingWord.2.2.1 bo_fittingWord.2.2.2.1 ∈ lw_g ∧ Cond.initialized bo_fittingWord.1.cls ∈ lw_g ∧ (bo_fittingWord.1.cls ≠ "java/lang/invoke/MethodHandle" ∧ bo_fittingWord.1.cls ≠ "java/lang/invoke/VarHandle" ∧ (parseMethodDescriptor bo_fittingWord.1.desc).map (fun d => d.parameters.length) = some 2) := ⟨by decide +kernel, by decide +kernel, lw_a4 236 (by decide +kernel) rfl, lw_a1 3 (by decide +kernel) rfl, by decide +kernel, by decide +kernel, by decide +kernel⟩
theorem pk_bo_recount_96 : mj_KV bo_recount bo_fittingWord 96 1 2 := ⟨⟨p0_bo_fittingWord.1, p0_bo_fittingWord.2.1, p0_bo_fittingWord.2.2.1, p0_bo_fittingWord.2.2.2.1, p0_bo_fittingWord.2.2.2.2, by decide⟩, lw_a4 233 (by decide +kernel) rfl, lw_a4 235 (by decide +kernel) rfl, lw_a0 33 (by decide +kernel) rfl, _, _, rfl⟩
theorem p0_jd_bcL : plainFor jd_bcL.1 = true ∧ jd_bcL.1 ≠ yL_law ∧ Cond.code jd_bcL.1 jd_bcL.2.1 jd_bcL.2.2.1 jd_bcL.2.2.2.1 ∈ lw_g ∧ Cond.initialized jd_bcL.1.cls ∈ lw_g ∧ (jd_bcL.1.cls ≠ "java/lang/invoke/MethodHandle" ∧ jd_bcL.1.cls ≠ "java/lang/invoke/VarHandle" ∧ (parseMethodDescriptor jd_bcL.1.desc).map (fun d => d.parameters.length) = some 1) := ⟨by decide +kernel, by decide +kernel, lw_a4 239 (by decide +kernel) rfl, lw_a1 18 (by decide +kernel) rfl, by decide +kernel, by decide +kernel, by decide +kernel⟩
theorem pk_bo_recount_100 : mj_KS bo_recount jd_bcL 100 1 := ⟨⟨p0_jd_bcL.1, p0_jd_bcL.2.1, p0_jd_bcL.2.2.1, p0_jd_bcL.2.2.2.1, p0_jd_bcL.2.2.2.2, by decide⟩, lw_a4 237 (by decide +kernel) rfl, lw_a4 238 (by decide +kernel) rfl⟩
theorem p0_bo_recount : plainFor bo_recount.1 = true ∧ bo_recount.1 ≠ yL_law ∧ Cond.code bo_recount.1 bo_recount.2.1 bo_recount.2.2.1 bo_recount.2.2.2.1 ∈ lw_g ∧ Cond.initialized bo_recount.1.cls ∈ lw_g ∧ (bo_recount.1.cls ≠ "java/lang/invoke/MethodHandle" ∧ bo_recount.1.cls ≠ "java/lang/invoke/VarHandle" ∧ (parseMethodDescriptor bo_recount.1.desc).map (fun d => d.parameters.length) = some 1) := ⟨by decide +kernel, by decide +kernel, lw_a4 228 (by decide +kernel) rfl, lw_a1 3 (by decide +kernel) rfl, by decide +kernel, by decide +kernel, by decide +kernel⟩
theorem pk_bo_recountAll_106 : mj_KV bo_recountAll bo_recount 106 1 1 := ⟨⟨p0_bo_recount.1, p0_bo_recount.2.1, p0_bo_recount.2.2.1, p0_bo_recount.2.2.2.1, p0_bo_recount.2.2.2.2, by decide⟩, lw_a4 225 (by decide +kernel) rfl, lw_a4 227 (by decide +kernel) rfl, lw_a0 31 (by decide +kernel) rfl, _, _, rfl⟩
theorem pk_bo_scarcestPlace_93 : mj_KV bo_scarcestPlace bo_isWaiting 93 1 1 := ⟨⟨p0_bo_isWaiting.1, p0_bo_isWaiting.2.1, p0_bo_isWaiting.2.2.1, p0_bo_isWaiting.2.2.2.1, p0_bo_isWaiting.2.2.2.2, by decide⟩, lw_a4 229 (by decide +kernel) rfl, lw_a4 231 (by decide +kernel) rfl, lw_a0 32 (by decide +kernel) rfl, _, _, rfl⟩
theorem pk_bo_fittingAfter_96 : mj_KV bo_fittingAfter bo_fittingWord 96 1 2 := ⟨⟨p0_bo_fittingWord.1, p0_bo_fittingWord.2.1, p0_bo_fittingWord.2.2.1, p0_bo_fittingWord.2.2.2.1, p0_bo_fittingWord.2.2.2.2, by decide⟩, lw_a4 233 (by decide +kernel) rfl, lw_a4 235 (by decide +kernel) rfl, lw_a0 33 (by decide +kernel) rfl, _, _, rfl⟩
theorem pi_bo_109 : Cond.constantLong RX1 109 (-1) ∈ lw_g := lw_a5 52 (by decide +kernel) rfl
theorem p0_jd_ntzL : plainFor jd_ntzL.1 = true ∧ jd_ntzL.1 ≠ yL_law ∧ Cond.code jd_ntzL.1 jd_ntzL.2.1 jd_ntzL.2.2.1 jd_ntzL.2.2.2.1 ∈ lw_g ∧ Cond.initialized jd_ntzL.1.cls ∈ lw_g ∧ (jd_ntzL.1.cls ≠ "java/lang/invoke/MethodHandle" ∧ jd_ntzL.1.cls ≠ "java/lang/invoke/VarHandle" ∧ (parseMethodDescriptor jd_ntzL.1.desc).map (fun d => d.parameters.length) = some 1) := ⟨by decide +kernel, by decide +kernel, lw_a5 55 (by decide +kernel) rfl, lw_a1 18 (by decide +kernel) rfl, by decide +kernel, by decide +kernel, by decide +kernel⟩
theorem pk_bo_fittingAfter_111 : mj_KS bo_fittingAfter jd_ntzL 111 1 := ⟨⟨p0_jd_ntzL.1, p0_jd_ntzL.2.1, p0_jd_ntzL.2.2.1, p0_jd_ntzL.2.2.2.1, p0_jd_ntzL.2.2.2.2, by decide⟩, lw_a5 53 (by decide +kernel) rfl, lw_a5 54 (by decide +kernel) rfl⟩
theorem p0_ch_codeOf : plainFor ch_codeOf.1 = true ∧ ch_codeOf.1 ≠ yL_law ∧ Cond.code ch_codeOf.1 ch_codeOf.2.1 ch_codeOf.2.2.1 ch_codeOf.2.2.2.1 ∈ lw_g ∧ Cond.initialized ch_codeOf.1.cls ∈ lw_g ∧ (ch_codeOf.1.cls ≠ "java/lang/invoke/MethodHandle" ∧ ch_codeOf.1.cls ≠ "java/lang/invoke/VarHandle" ∧ (parseMethodDescriptor ch_codeOf.1.desc).map (fun d => d.parameters.length) = some 1) := ⟨by decide +kernel, by decide +kernel, lw_a5 75 (by decide +kernel) rfl, lw_a1 4 (by decide +kernel) rfl, by decide +kernel, by decide +kernel, by decide +kernel⟩
theorem pk_bo_lay_114 : mj_KV bo_lay ch_codeOf 114 2 1 := ⟨⟨p0_ch_codeOf.1, p0_ch_codeOf.2.1, p0_ch_codeOf.2.2.1, p0_ch_codeOf.2.2.2.1, p0_ch_codeOf.2.2.2.2, by decide⟩, lw_a5 105 (by decide +kernel) rfl, lw_a5 73 (by decide +kernel) rfl, lw_a5 74 (by decide +kernel) rfl, _, _, rfl⟩
theorem pk_bo_lay_93 : mj_KV bo_lay bo_isWaiting 93 1 1 := ⟨⟨p0_bo_isWaiting.1, p0_bo_isWaiting.2.1, p0_bo_isWaiting.2.2.1, p0_bo_isWaiting.2.2.2.1, p0_bo_isWaiting.2.2.2.2, by decide⟩, lw_a4 229 (by decide +kernel) rfl, lw_a4 231 (by decide +kernel) rfl, lw_a0 32 (by decide +kernel) rfl, _, _, rfl⟩
theorem p0_bo_changeLeft : plainFor bo_changeLeft.1 = true ∧ bo_changeLeft.1 ≠ yL_law ∧ Cond.code bo_changeLeft.1 bo_changeLeft.2.1 bo_changeLeft.2.2.1 bo_changeLeft.2.2.2.1 ∈ lw_g ∧ Cond.initialized bo_changeLeft.1.cls ∈ lw_g ∧ (bo_changeLeft.1.cls ≠ "java/lang/invoke/MethodHandle" ∧ bo_changeLeft.1.cls ≠ "java/lang/invoke/VarHandle" ∧ (parseMethodDescriptor bo_changeLeft.1.desc).map (fun d => d.parameters.length) = some 2) := ⟨by decide +kernel, by decide +kernel, lw_a5 87 (by decide +kernel) rfl, lw_a1 3 (by decide +kernel) rfl, by decide +kernel, by decide +kernel, by decide +kernel⟩
theorem pk_bo_lay_117 : mj_KV bo_lay bo_changeLeft 117 1 2 := ⟨⟨p0_bo_changeLeft.1, p0_bo_changeLeft.2.1, p0_bo_changeLeft.2.2.1, p0_bo_changeLeft.2.2.2.1, p0_bo_changeLeft.2.2.2.2, by decide⟩, lw_a5 84 (by decide +kernel) rfl, lw_a5 86 (by decide +kernel) rfl, lw_a0 42 (by decide +kernel) rfl, _, _, rfl⟩
theorem pk_bo_lay_80 : mj_KV bo_lay bo_recountAll 80 1 0 := ⟨⟨p0_bo_recountAll.1, p0_bo_recountAll.2.1, p0_bo_recountAll.2.2.1, p0_bo_recountAll.2.2.2.1, p0_bo_recountAll.2.2.2.2, by decide⟩, lw_a4 221 (by decide +kernel) rfl, lw_a4 223 (by decide +kernel) rfl, lw_a0 30 (by decide +kernel) rfl, _, _, rfl⟩
theorem p0_bo_tellAround : plainFor bo_tellAround.1 = true ∧ bo_tellAround.1 ≠ yL_law ∧ Cond.code bo_tellAround.1 bo_tellAround.2.1 bo_tellAround.2.2.1 bo_tellAround.2.2.2.1 ∈ lw_g ∧ Cond.initialized bo_tellAround.1.cls ∈ lw_g ∧ (bo_tellAround.1.cls ≠ "java/lang/invoke/MethodHandle" ∧ bo_tellAround.1.cls ≠ "java/lang/invoke/VarHandle" ∧ (parseMethodDescriptor bo_tellAround.1.desc).map (fun d => d.parameters.length) = some 1) := ⟨by decide +kernel, by decide +kernel, lw_a5 96 (by decide +kernel) rfl, lw_a1 3 (by decide +kernel) rfl, by decide +kernel, by decide +kernel, by decide +kernel⟩
theorem pk_bo_lay_121 : mj_KV bo_lay bo_tellAround 121 1 1 := ⟨⟨p0_bo_tellAround.1, p0_bo_tellAround.2.1, p0_bo_tellAround.2.2.1, p0_bo_tellAround.2.2.2.1, p0_bo_tellAround.2.2.2.2, by decide⟩, lw_a5 93 (by decide +kernel) rfl, lw_a5 95 (by decide +kernel) rfl, lw_a0 44 (by decide +kernel) rfl, _, _, rfl⟩
theorem pk_bo_lift_106 : mj_KV bo_lift bo_recount 106 1 1 := ⟨⟨p0_bo_recount.1, p0_bo_recount.2.1, p0_bo_recount.2.2.1, p0_bo_recount.2.2.2.1, p0_bo_recount.2.2.2.2, by decide⟩, lw_a4 225 (by decide +kernel) rfl, lw_a4 227 (by decide +kernel) rfl, lw_a0 31 (by decide +kernel) rfl, _, _, rfl⟩
theorem pk_bo_lift_117 : mj_KV bo_lift bo_changeLeft 117 1 2 := ⟨⟨p0_bo_changeLeft.1, p0_bo_changeLeft.2.1, p0_bo_changeLeft.2.2.1, p0_bo_changeLeft.2.2.2.1, p0_bo_changeLeft.2.2.2.2, by decide⟩, lw_a5 84 (by decide +kernel) rfl, lw_a5 86 (by decide +kernel) rfl, lw_a0 42 (by decide +kernel) rfl, _, _, rfl⟩
theorem pk_bo_lift_80 : mj_KV bo_lift bo_recountAll 80 1 0 := ⟨⟨p0_bo_recountAll.1, p0_bo_recountAll.2.1, p0_bo_recountAll.2.2.1, p0_bo_recountAll.2.2.2.1, p0_bo_recountAll.2.2.2.2, by decide⟩, lw_a4 221 (by decide +kernel) rfl, lw_a4 223 (by decide +kernel) rfl, lw_a0 30 (by decide +kernel) rfl, _, _, rfl⟩
theorem pk_bo_lift_121 : mj_KV bo_lift bo_tellAround 121 1 1 := ⟨⟨p0_bo_tellAround.1, p0_bo_tellAround.2.1, p0_bo_tellAround.2.2.1, p0_bo_tellAround.2.2.2.1, p0_bo_tellAround.2.2.2.2, by decide⟩, lw_a5 93 (by decide +kernel) rfl, lw_a5 95 (by decide +kernel) rfl, lw_a0 44 (by decide +kernel) rfl, _, _, rfl⟩
theorem pk_bo_tellAround_83 : mj_KV bo_tellAround bo_beside 83 1 2 := ⟨⟨p0_bo_beside.1, p0_bo_beside.2.1, p0_bo_beside.2.2.1, p0_bo_beside.2.2.2.1, p0_bo_beside.2.2.2.2, by decide⟩, lw_a4 212 (by decide +kernel) rfl, lw_a4 214 (by decide +kernel) rfl, lw_a0 28 (by decide +kernel) rfl, _, _, rfl⟩
theorem pk_bo_tellAround_90 : mj_KV bo_tellAround ch_colourOf 90 2 2 := ⟨⟨p0_ch_colourOf.1, p0_ch_colourOf.2.1, p0_ch_colourOf.2.2.1, p0_ch_colourOf.2.2.2.1, p0_ch_colourOf.2.2.2.2, by decide⟩, lw_a4 220 (by decide +kernel) rfl, lw_a4 187 (by decide +kernel) rfl, lw_a4 188 (by decide +kernel) rfl, _, _, rfl⟩
theorem pk_bo_tellAround_106 : mj_KV bo_tellAround bo_recount 106 1 1 := ⟨⟨p0_bo_recount.1, p0_bo_recount.2.1, p0_bo_recount.2.2.1, p0_bo_recount.2.2.2.1, p0_bo_recount.2.2.2.2, by decide⟩, lw_a4 225 (by decide +kernel) rfl, lw_a4 227 (by decide +kernel) rfl, lw_a0 31 (by decide +kernel) rfl, _, _, rfl⟩
theorem p0_ch_kindOf : plainFor ch_kindOf.1 = true ∧ ch_kindOf.1 ≠ yL_law ∧ Cond.code ch_kindOf.1 ch_kindOf.2.1 ch_kindOf.2.2.1 ch_kindOf.2.2.2.1 ∈ lw_g ∧ Cond.initialized ch_kindOf.1.cls ∈ lw_g ∧ (ch_kindOf.1.cls ≠ "java/lang/invoke/MethodHandle" ∧ ch_kindOf.1.cls ≠ "java/lang/invoke/VarHandle" ∧ (parseMethodDescriptor ch_kindOf.1.desc).map (fun d => d.parameters.length) = some 1) := ⟨by decide +kernel, by decide +kernel, lw_a5 71 (by decide +kernel) rfl, lw_a1 4 (by decide +kernel) rfl, by decide +kernel, by decide +kernel, by decide +kernel⟩
theorem pk_bo_changeLeft_124 : mj_KV bo_changeLeft ch_kindOf 124 2 1 := ⟨⟨p0_ch_kindOf.1, p0_ch_kindOf.2.1, p0_ch_kindOf.2.2.1, p0_ch_kindOf.2.2.2.1, p0_ch_kindOf.2.2.2.2, by decide⟩, lw_a5 88 (by decide +kernel) rfl, lw_a5 69 (by decide +kernel) rfl, lw_a5 70 (by decide +kernel) rfl, _, _, rfl⟩
theorem p0_bo_flipLeftBits : plainFor bo_flipLeftBits.1 = true ∧ bo_flipLeftBits.1 ≠ yL_law ∧ Cond.code bo_flipLeftBits.1 bo_flipLeftBits.2.1 bo_flipLeftBits.2.2.1 bo_flipLeftBits.2.2.2.1 ∈ lw_g ∧ Cond.initialized bo_flipLeftBits.1.cls ∈ lw_g ∧ (bo_flipLeftBits.1.cls ≠ "java/lang/invoke/MethodHandle" ∧ bo_flipLeftBits.1.cls ≠ "java/lang/invoke/VarHandle" ∧ (parseMethodDescriptor bo_flipLeftBits.1.desc).map (fun d => d.parameters.length) = some 1) := ⟨by decide +kernel, by decide +kernel, lw_a5 92 (by decide +kernel) rfl, lw_a1 3 (by decide +kernel) rfl, by decide +kernel, by decide +kernel, by decide +kernel⟩
theorem pk_bo_changeLeft_127 : mj_KV bo_changeLeft bo_flipLeftBits 127 1 1 := ⟨⟨p0_bo_flipLeftBits.1, p0_bo_flipLeftBits.2.1, p0_bo_flipLeftBits.2.2.1, p0_bo_flipLeftBits.2.2.2.1, p0_bo_flipLeftBits.2.2.2.2, by decide⟩, lw_a5 89 (by decide +kernel) rfl, lw_a5 91 (by decide +kernel) rfl, lw_a0 43 (by decide +kernel) rfl, _, _, rfl⟩
theorem pf_bo_130 : mj_F RX1 130 2 1 4 false .int := ⟨_, _, rfl, by decide, rfl, rfl, rfl, lw_a1 69 (by decide +kernel) rfl⟩
theorem pk_bo_flipLeftBits_124 : mj_KV bo_flipLeftBits ch_kindOf 124 2 1 := ⟨⟨p0_ch_kindOf.1, p0_ch_kindOf.2.1, p0_ch_kindOf.2.2.1, p0_ch_kindOf.2.2.2.1, p0_ch_kindOf.2.2.2.2, by decide⟩, lw_a5 88 (by decide +kernel) rfl, lw_a5 69 (by decide +kernel) rfl, lw_a5 70 (by decide +kernel) rfl, _, _, rfl⟩
theorem p0_bo_forceRound : plainFor bo_forceRound.1 = true ∧ bo_forceRound.1 ≠ yL_law ∧ Cond.code bo_forceRound.1 bo_forceRound.2.1 bo_forceRound.2.2.1 bo_forceRound.2.2.2.1 ∈ lw_g ∧ Cond.initialized bo_forceRound.1.cls ∈ lw_g ∧ (bo_forceRound.1.cls ≠ "java/lang/invoke/MethodHandle" ∧ bo_forceRound.1.cls ≠ "java/lang/invoke/VarHandle" ∧ (parseMethodDescriptor bo_forceRound.1.desc).map (fun d => d.parameters.length) = some 0) := ⟨by decide +kernel, by decide +kernel, lw_a5 127 (by decide +kernel) rfl, lw_a1 3 (by decide +kernel) rfl, by decide +kernel, by decide +kernel, by decide +kernel⟩
theorem pk_bo_forceRounds_133 : mj_KV bo_forceRounds bo_forceRound 133 1 0 := ⟨⟨p0_bo_forceRound.1, p0_bo_forceRound.2.1, p0_bo_forceRound.2.2.1, p0_bo_forceRound.2.2.2.1, p0_bo_forceRound.2.2.2.2, by decide⟩, lw_a5 124 (by decide +kernel) rfl, lw_a5 126 (by decide +kernel) rfl, lw_a0 46 (by decide +kernel) rfl, _, _, rfl⟩
theorem pk_bo_forceRound_93 : mj_KV bo_forceRound bo_isWaiting 93 1 1 := ⟨⟨p0_bo_isWaiting.1, p0_bo_isWaiting.2.1, p0_bo_isWaiting.2.2.1, p0_bo_isWaiting.2.2.2.1, p0_bo_isWaiting.2.2.2.2, by decide⟩, lw_a4 229 (by decide +kernel) rfl, lw_a4 231 (by decide +kernel) rfl, lw_a0 32 (by decide +kernel) rfl, _, _, rfl⟩
theorem p0_bo_fittingAfter : plainFor bo_fittingAfter.1 = true ∧ bo_fittingAfter.1 ≠ yL_law ∧ Cond.code bo_fittingAfter.1 bo_fittingAfter.2.1 bo_fittingAfter.2.2.1 bo_fittingAfter.2.2.2.1 ∈ lw_g ∧ Cond.initialized bo_fittingAfter.1.cls ∈ lw_g ∧ (bo_fittingAfter.1.cls ≠ "java/lang/invoke/MethodHandle" ∧ bo_fittingAfter.1.cls ≠ "java/lang/invoke/VarHandle" ∧ (parseMethodDescriptor bo_fittingAfter.1.desc).map (fun d => d.parameters.length) = some 2) := ⟨by decide +kernel, by decide +kernel, lw_a5 51 (by decide +kernel) rfl, lw_a1 3 (by decide +kernel) rfl, by decide +kernel, by decide +kernel, by decide +kernel⟩
theorem pk_bo_forceRound_137 : mj_KV bo_forceRound bo_fittingAfter 137 1 2 := ⟨⟨p0_bo_fittingAfter.1, p0_bo_fittingAfter.2.1, p0_bo_fittingAfter.2.2.1, p0_bo_fittingAfter.2.2.2.1, p0_bo_fittingAfter.2.2.2.2, by decide⟩, lw_a5 128 (by decide +kernel) rfl, lw_a5 49 (by decide +kernel) rfl, lw_a5 50 (by decide +kernel) rfl, _, _, rfl⟩
theorem p0_bo_lay : plainFor bo_lay.1 = true ∧ bo_lay.1 ≠ yL_law ∧ Cond.code bo_lay.1 bo_lay.2.1 bo_lay.2.2.1 bo_lay.2.2.2.1 ∈ lw_g ∧ Cond.initialized bo_lay.1.cls ∈ lw_g ∧ (bo_lay.1.cls ≠ "java/lang/invoke/MethodHandle" ∧ bo_lay.1.cls ≠ "java/lang/invoke/VarHandle" ∧ (parseMethodDescriptor bo_lay.1.desc).map (fun d => d.parameters.length) = some 2) := ⟨by decide +kernel, by decide +kernel, lw_a5 104 (by decide +kernel) rfl, lw_a1 3 (by decide +kernel) rfl, by decide +kernel, by decide +kernel, by decide +kernel⟩
theorem pk_bo_forceRound_140 : mj_KV bo_forceRound bo_lay 140 1 2 := ⟨⟨p0_bo_lay.1, p0_bo_lay.2.1, p0_bo_lay.2.2.1, p0_bo_lay.2.2.2.1, p0_bo_lay.2.2.2.2, by decide⟩, lw_a5 129 (by decide +kernel) rfl, lw_a5 102 (by decide +kernel) rfl, lw_a5 103 (by decide +kernel) rfl, _, _, rfl⟩
theorem p0_fl_showAt : plainFor fl_showAt.1 = true ∧ fl_showAt.1 ≠ yL_law ∧ Cond.code fl_showAt.1 fl_showAt.2.1 fl_showAt.2.2.1 fl_showAt.2.2.2.1 ∈ lw_g ∧ Cond.initialized fl_showAt.1.cls ∈ lw_g ∧ (fl_showAt.1.cls ≠ "java/lang/invoke/MethodHandle" ∧ fl_showAt.1.cls ≠ "java/lang/invoke/VarHandle" ∧ (parseMethodDescriptor fl_showAt.1.desc).map (fun d => d.parameters.length) = some 2) := ⟨by decide +kernel, by decide +kernel, lw_a5 30 (by decide +kernel) rfl, lw_a1 17 (by decide +kernel) rfl, by decide +kernel, by decide +kernel, by decide +kernel⟩
theorem pk_bo_showOn_144 : mj_KV bo_showOn fl_showAt 144 3 2 := ⟨⟨p0_fl_showAt.1, p0_fl_showAt.2.1, p0_fl_showAt.2.2.1, p0_fl_showAt.2.2.2.1, p0_fl_showAt.2.2.2.2, by decide⟩, lw_a5 27 (by decide +kernel) rfl, lw_a5 28 (by decide +kernel) rfl, lw_a5 29 (by decide +kernel) rfl, _, _, rfl⟩
theorem pi_ce_7 : Cond.constant RX2 7 (65535) ∈ lw_g := lw_a3 13 (by decide +kernel) rfl
theorem p0_ce_kindOf : plainFor ce_kindOf.1 = true ∧ ce_kindOf.1 ≠ yL_law ∧ Cond.code ce_kindOf.1 ce_kindOf.2.1 ce_kindOf.2.2.1 ce_kindOf.2.2.2.1 ∈ lw_g ∧ Cond.initialized ce_kindOf.1.cls ∈ lw_g ∧ (ce_kindOf.1.cls ≠ "java/lang/invoke/MethodHandle" ∧ ce_kindOf.1.cls ≠ "java/lang/invoke/VarHandle" ∧ (parseMethodDescriptor ce_kindOf.1.desc).map (fun d => d.parameters.length) = some 1) := ⟨by decide +kernel, by decide +kernel, lw_a3 23 (by decide +kernel) rfl, lw_a1 14 (by decide +kernel) rfl, by decide +kernel, by decide +kernel, by decide +kernel⟩
theorem pk_ce_shaded_8 : mj_KS ce_shaded ce_kindOf 8 1 := ⟨⟨p0_ce_kindOf.1, p0_ce_kindOf.2.1, p0_ce_kindOf.2.2.1, p0_ce_kindOf.2.2.2.1, p0_ce_kindOf.2.2.2.2, by decide⟩, lw_a3 21 (by decide +kernel) rfl, lw_a3 22 (by decide +kernel) rfl⟩
theorem p0_ce_moveOf : plainFor ce_moveOf.1 = true ∧ ce_moveOf.1 ≠ yL_law ∧ Cond.code ce_moveOf.1 ce_moveOf.2.1 ce_moveOf.2.2.1 ce_moveOf.2.2.2.1 ∈ lw_g ∧ Cond.initialized ce_moveOf.1.cls ∈ lw_g ∧ (ce_moveOf.1.cls ≠ "java/lang/invoke/MethodHandle" ∧ ce_moveOf.1.cls ≠ "java/lang/invoke/VarHandle" ∧ (parseMethodDescriptor ce_moveOf.1.desc).map (fun d => d.parameters.length) = some 1) := ⟨by decide +kernel, by decide +kernel, lw_a3 26 (by decide +kernel) rfl, lw_a1 14 (by decide +kernel) rfl, by decide +kernel, by decide +kernel, by decide +kernel⟩
theorem pk_ce_shaded_14 : mj_KS ce_shaded ce_moveOf 14 1 := ⟨⟨p0_ce_moveOf.1, p0_ce_moveOf.2.1, p0_ce_moveOf.2.2.1, p0_ce_moveOf.2.2.2.1, p0_ce_moveOf.2.2.2.2, by decide⟩, lw_a3 24 (by decide +kernel) rfl, lw_a3 25 (by decide +kernel) rfl⟩
theorem p0_ce_tile : plainFor ce_tile.1 = true ∧ ce_tile.1 ≠ yL_law ∧ Cond.code ce_tile.1 ce_tile.2.1 ce_tile.2.2.1 ce_tile.2.2.2.1 ∈ lw_g ∧ Cond.initialized ce_tile.1.cls ∈ lw_g ∧ (ce_tile.1.cls ≠ "java/lang/invoke/MethodHandle" ∧ ce_tile.1.cls ≠ "java/lang/invoke/VarHandle" ∧ (parseMethodDescriptor ce_tile.1.desc).map (fun d => d.parameters.length) = some 3) := ⟨by decide +kernel, by decide +kernel, lw_a3 12 (by decide +kernel) rfl, lw_a1 14 (by decide +kernel) rfl, by decide +kernel, by decide +kernel, by decide +kernel⟩
theorem pk_ce_shaded_17 : mj_KS ce_shaded ce_tile 17 3 := ⟨⟨p0_ce_tile.1, p0_ce_tile.2.1, p0_ce_tile.2.2.1, p0_ce_tile.2.2.2.1, p0_ce_tile.2.2.2.2, by decide⟩, lw_a3 27 (by decide +kernel) rfl, lw_a3 11 (by decide +kernel) rfl⟩
theorem pm_ch_7 : Cond.methodLink RX3 7 objectInit ∈ lw_g := lw_a1 65 (by decide +kernel) rfl
theorem pf_ch_13 : mj_F RX3 13 2 2 4 true (.array .int) := ⟨_, _, rfl, by decide, rfl, rfl, rfl, lw_a1 70 (by decide +kernel) rfl⟩
theorem pf_ch_17 : mj_F RX3 17 2 3 4 true (.array .long) := ⟨_, _, rfl, by decide, rfl, rfl, rfl, lw_a1 71 (by decide +kernel) rfl⟩
theorem pf_ch_21 : mj_F RX3 21 2 0 4 true (.object "TileOffice$Kinds") := ⟨_, _, rfl, by decide, rfl, rfl, rfl, lw_a1 66 (by decide +kernel) rfl⟩
theorem pf_ch_25 : mj_F RX3 25 2 1 4 false .int := ⟨_, _, rfl, by decide, rfl, rfl, rfl, lw_a1 67 (by decide +kernel) rfl⟩
theorem p0_jd_fillL : plainFor jd_fillL.1 = true ∧ jd_fillL.1 ≠ yL_law ∧ Cond.code jd_fillL.1 jd_fillL.2.1 jd_fillL.2.2.1 jd_fillL.2.2.2.1 ∈ lw_g ∧ Cond.initialized jd_fillL.1.cls ∈ lw_g ∧ (jd_fillL.1.cls ≠ "java/lang/invoke/MethodHandle" ∧ jd_fillL.1.cls ≠ "java/lang/invoke/VarHandle" ∧ (parseMethodDescriptor jd_fillL.1.desc).map (fun d => d.parameters.length) = some 2) := ⟨by decide +kernel, by decide +kernel, lw_a4 17 (by decide +kernel) rfl, lw_a1 13 (by decide +kernel) rfl, by decide +kernel, by decide +kernel, by decide +kernel⟩
theorem pk_ch_gather_29 : mj_KS ch_gather jd_fillL 29 2 := ⟨⟨p0_jd_fillL.1, p0_jd_fillL.2.1, p0_jd_fillL.2.2.1, p0_jd_fillL.2.2.2.1, p0_jd_fillL.2.2.2.2, by decide⟩, lw_a4 176 (by decide +kernel) rfl, lw_a4 16 (by decide +kernel) rfl⟩
theorem pf_ch_35 : mj_F RX3 35 5 0 6 false .int := ⟨_, _, rfl, by decide, rfl, rfl, rfl, lw_a1 33 (by decide +kernel) rfl⟩
theorem pk_ch_gather_38 : mj_KV ch_gather fl_stockOf 38 3 1 := ⟨⟨p0_fl_stockOf.1, p0_fl_stockOf.2.1, p0_fl_stockOf.2.2.1, p0_fl_stockOf.2.2.2.1, p0_fl_stockOf.2.2.2.2, by decide⟩, lw_a4 177 (by decide +kernel) rfl, lw_a4 178 (by decide +kernel) rfl, lw_a4 179 (by decide +kernel) rfl, _, _, rfl⟩
theorem p0_ki_lies : plainFor ki_lies.1 = true ∧ ki_lies.1 ≠ yL_law ∧ Cond.code ki_lies.1 ki_lies.2.1 ki_lies.2.2.1 ki_lies.2.2.2.1 ∈ lw_g ∧ Cond.initialized ki_lies.1.cls ∈ lw_g ∧ (ki_lies.1.cls ≠ "java/lang/invoke/MethodHandle" ∧ ki_lies.1.cls ≠ "java/lang/invoke/VarHandle" ∧ (parseMethodDescriptor ki_lies.1.desc).map (fun d => d.parameters.length) = some 2) := ⟨by decide +kernel, by decide +kernel, lw_a2 95 (by decide +kernel) rfl, lw_a1 2 (by decide +kernel) rfl, by decide +kernel, by decide +kernel, by decide +kernel⟩
theorem pk_ch_gather_44 : mj_KV ch_gather ki_lies 44 5 2 := ⟨⟨p0_ki_lies.1, p0_ki_lies.2.1, p0_ki_lies.2.2.1, p0_ki_lies.2.2.2.1, p0_ki_lies.2.2.2.2, by decide⟩, lw_a4 181 (by decide +kernel) rfl, lw_a2 93 (by decide +kernel) rfl, lw_a2 94 (by decide +kernel) rfl, _, _, rfl⟩
theorem p0_ch_enter : plainFor ch_enter.1 = true ∧ ch_enter.1 ≠ yL_law ∧ Cond.code ch_enter.1 ch_enter.2.1 ch_enter.2.2.1 ch_enter.2.2.2.1 ∈ lw_g ∧ Cond.initialized ch_enter.1.cls ∈ lw_g ∧ (ch_enter.1.cls ≠ "java/lang/invoke/MethodHandle" ∧ ch_enter.1.cls ≠ "java/lang/invoke/VarHandle" ∧ (parseMethodDescriptor ch_enter.1.desc).map (fun d => d.parameters.length) = some 1) := ⟨by decide +kernel, by decide +kernel, lw_a4 185 (by decide +kernel) rfl, lw_a1 4 (by decide +kernel) rfl, by decide +kernel, by decide +kernel, by decide +kernel⟩
theorem pk_ch_gather_48 : mj_KV ch_gather ch_enter 48 2 1 := ⟨⟨p0_ch_enter.1, p0_ch_enter.2.1, p0_ch_enter.2.2.1, p0_ch_enter.2.2.2.1, p0_ch_enter.2.2.2.2, by decide⟩, lw_a4 182 (by decide +kernel) rfl, lw_a4 184 (by decide +kernel) rfl, lw_a0 24 (by decide +kernel) rfl, _, _, rfl⟩
theorem pk_ch_enter_52 : mj_KV ch_enter ch_colourOf 52 2 2 := ⟨⟨p0_ch_colourOf.1, p0_ch_colourOf.2.1, p0_ch_colourOf.2.2.1, p0_ch_colourOf.2.2.2.1, p0_ch_colourOf.2.2.2.2, by decide⟩, lw_a4 186 (by decide +kernel) rfl, lw_a4 187 (by decide +kernel) rfl, lw_a4 188 (by decide +kernel) rfl, _, _, rfl⟩
theorem p0_ch_mark : plainFor ch_mark.1 = true ∧ ch_mark.1 ≠ yL_law ∧ Cond.code ch_mark.1 ch_mark.2.1 ch_mark.2.2.1 ch_mark.2.2.2.1 ∈ lw_g ∧ Cond.initialized ch_mark.1.cls ∈ lw_g ∧ (ch_mark.1.cls ≠ "java/lang/invoke/MethodHandle" ∧ ch_mark.1.cls ≠ "java/lang/invoke/VarHandle" ∧ (parseMethodDescriptor ch_mark.1.desc).map (fun d => d.parameters.length) = some 2) := ⟨by decide +kernel, by decide +kernel, lw_a4 194 (by decide +kernel) rfl, lw_a1 4 (by decide +kernel) rfl, by decide +kernel, by decide +kernel, by decide +kernel⟩
theorem pk_ch_enter_55 : mj_KV ch_enter ch_mark 55 2 2 := ⟨⟨p0_ch_mark.1, p0_ch_mark.2.1, p0_ch_mark.2.2.1, p0_ch_mark.2.2.2.1, p0_ch_mark.2.2.2.2, by decide⟩, lw_a4 191 (by decide +kernel) rfl, lw_a4 193 (by decide +kernel) rfl, lw_a0 25 (by decide +kernel) rfl, _, _, rfl⟩
theorem pk_ch_kindOf_59 : mj_KV ch_kindOf ch_codeOf 59 2 1 := ⟨⟨p0_ch_codeOf.1, p0_ch_codeOf.2.1, p0_ch_codeOf.2.2.1, p0_ch_codeOf.2.2.2.1, p0_ch_codeOf.2.2.2.2, by decide⟩, lw_a5 72 (by decide +kernel) rfl, lw_a5 73 (by decide +kernel) rfl, lw_a5 74 (by decide +kernel) rfl, _, _, rfl⟩
theorem p0_ki_colour : plainFor ki_colour.1 = true ∧ ki_colour.1 ≠ yL_law ∧ Cond.code ki_colour.1 ki_colour.2.1 ki_colour.2.2.1 ki_colour.2.2.2.1 ∈ lw_g ∧ Cond.initialized ki_colour.1.cls ∈ lw_g ∧ (ki_colour.1.cls ≠ "java/lang/invoke/MethodHandle" ∧ ki_colour.1.cls ≠ "java/lang/invoke/VarHandle" ∧ (parseMethodDescriptor ki_colour.1.desc).map (fun d => d.parameters.length) = some 3) := ⟨by decide +kernel, by decide +kernel, lw_a2 99 (by decide +kernel) rfl, lw_a1 2 (by decide +kernel) rfl, by decide +kernel, by decide +kernel, by decide +kernel⟩
theorem pk_ch_colourOf_62 : mj_KV ch_colourOf ki_colour 62 5 3 := ⟨⟨p0_ki_colour.1, p0_ki_colour.2.1, p0_ki_colour.2.2.1, p0_ki_colour.2.2.2.1, p0_ki_colour.2.2.2.2, by decide⟩, lw_a4 190 (by decide +kernel) rfl, lw_a2 97 (by decide +kernel) rfl, lw_a2 98 (by decide +kernel) rfl, _, _, rfl⟩
theorem pm_fl_5 : Cond.methodLink RX4 5 objectInit ∈ lw_g := lw_a4 111 (by decide +kernel) rfl
theorem pf_fl_11 : mj_F RX4 11 3 2 5 true (.array .int) := ⟨_, _, rfl, by decide, rfl, rfl, rfl, lw_a4 117 (by decide +kernel) rfl⟩
theorem pf_fl_15 : mj_F RX4 15 3 3 5 true (.array .int) := ⟨_, _, rfl, by decide, rfl, rfl, rfl, lw_a4 118 (by decide +kernel) rfl⟩
theorem pf_fl_20 : mj_F RX4 20 3 4 5 true (.array .int) := ⟨_, _, rfl, by decide, rfl, rfl, rfl, lw_a4 119 (by decide +kernel) rfl⟩
theorem pf_fl_23 : mj_F RX4 23 3 0 5 true .int := ⟨_, _, rfl, by decide, rfl, rfl, rfl, lw_a4 113 (by decide +kernel) rfl⟩
theorem pf_fl_27 : mj_F RX4 27 3 1 5 true .int := ⟨_, _, rfl, by decide, rfl, rfl, rfl, lw_a4 115 (by decide +kernel) rfl⟩
theorem p0_jd_fillI : plainFor jd_fillI.1 = true ∧ jd_fillI.1 ≠ yL_law ∧ Cond.code jd_fillI.1 jd_fillI.2.1 jd_fillI.2.2.1 jd_fillI.2.2.2.1 ∈ lw_g ∧ Cond.initialized jd_fillI.1.cls ∈ lw_g ∧ (jd_fillI.1.cls ≠ "java/lang/invoke/MethodHandle" ∧ jd_fillI.1.cls ≠ "java/lang/invoke/VarHandle" ∧ (parseMethodDescriptor jd_fillI.1.desc).map (fun d => d.parameters.length) = some 2) := ⟨by decide +kernel, by decide +kernel, lw_a2 167 (by decide +kernel) rfl, lw_a1 13 (by decide +kernel) rfl, by decide +kernel, by decide +kernel, by decide +kernel⟩
theorem pk_fl_init_30 : mj_KS fl_init jd_fillI 30 2 := ⟨⟨p0_jd_fillI.1, p0_jd_fillI.2.1, p0_jd_fillI.2.2.1, p0_jd_fillI.2.2.2.1, p0_jd_fillI.2.2.2.2, by decide⟩, lw_a4 112 (by decide +kernel) rfl, lw_a2 166 (by decide +kernel) rfl⟩
theorem p0_fl_hasPlace : plainFor fl_hasPlace.1 = true ∧ fl_hasPlace.1 ≠ yL_law ∧ Cond.code fl_hasPlace.1 fl_hasPlace.2.1 fl_hasPlace.2.2.1 fl_hasPlace.2.2.2.1 ∈ lw_g ∧ Cond.initialized fl_hasPlace.1.cls ∈ lw_g ∧ (fl_hasPlace.1.cls ≠ "java/lang/invoke/MethodHandle" ∧ fl_hasPlace.1.cls ≠ "java/lang/invoke/VarHandle" ∧ (parseMethodDescriptor fl_hasPlace.1.desc).map (fun d => d.parameters.length) = some 2) := ⟨by decide +kernel, by decide +kernel, lw_a4 142 (by decide +kernel) rfl, lw_a1 17 (by decide +kernel) rfl, by decide +kernel, by decide +kernel, by decide +kernel⟩
theorem pk_fl_setPlace_36 : mj_KV fl_setPlace fl_hasPlace 36 3 2 := ⟨⟨p0_fl_hasPlace.1, p0_fl_hasPlace.2.1, p0_fl_hasPlace.2.2.1, p0_fl_hasPlace.2.2.2.1, p0_fl_hasPlace.2.2.2.2, by decide⟩, lw_a4 147 (by decide +kernel) rfl, lw_a4 140 (by decide +kernel) rfl, lw_a4 141 (by decide +kernel) rfl, _, _, rfl⟩
theorem pk_fl_shownAt_36 : mj_KV fl_shownAt fl_hasPlace 36 3 2 := ⟨⟨p0_fl_hasPlace.1, p0_fl_hasPlace.2.1, p0_fl_hasPlace.2.2.1, p0_fl_hasPlace.2.2.2.1, p0_fl_hasPlace.2.2.2.2, by decide⟩, lw_a4 147 (by decide +kernel) rfl, lw_a4 140 (by decide +kernel) rfl, lw_a4 141 (by decide +kernel) rfl, _, _, rfl⟩
theorem pk_fl_showNothing_30 : mj_KS fl_showNothing jd_fillI 30 2 := ⟨⟨p0_jd_fillI.1, p0_jd_fillI.2.1, p0_jd_fillI.2.2.1, p0_jd_fillI.2.2.2.1, p0_jd_fillI.2.2.2.2, by decide⟩, lw_a4 112 (by decide +kernel) rfl, lw_a2 166 (by decide +kernel) rfl⟩
theorem pm_hi_3 : Cond.methodLink RX5 3 objectInit ∈ lw_g := lw_a1 197 (by decide +kernel) rfl
theorem pf_hi_11 : mj_F RX5 11 4 2 5 true (.array .int) := ⟨_, _, rfl, by decide, rfl, rfl, rfl, lw_a1 201 (by decide +kernel) rfl⟩
theorem pf_hi_15 : mj_F RX5 15 4 3 5 true (.array .int) := ⟨_, _, rfl, by decide, rfl, rfl, rfl, lw_a1 202 (by decide +kernel) rfl⟩
theorem pf_hi_20 : mj_F RX5 20 4 4 5 true (.array .int) := ⟨_, _, rfl, by decide, rfl, rfl, rfl, lw_a1 203 (by decide +kernel) rfl⟩
theorem pf_hi_23 : mj_F RX5 23 4 1 5 false .int := ⟨_, _, rfl, by decide, rfl, rfl, rfl, lw_a1 200 (by decide +kernel) rfl⟩
theorem pf_hi_27 : mj_F RX5 27 6 2 3 false .int := ⟨_, _, rfl, by decide, rfl, rfl, rfl, lw_a2 121 (by decide +kernel) rfl⟩
theorem pf_hi_30 : mj_F RX5 30 6 1 3 true (.array .int) := ⟨_, _, rfl, by decide, rfl, rfl, rfl, lw_a2 118 (by decide +kernel) rfl⟩
theorem pm_hi_31 : Cond.methodLink RX5 31 arraycopyName ∈ lw_g := lw_a2 154 (by decide +kernel) rfl
theorem pf_hi_37 : mj_F RX5 37 4 0 5 false .int := ⟨_, _, rfl, by decide, rfl, rfl, rfl, lw_a1 198 (by decide +kernel) rfl⟩
theorem p0_jd_min : plainFor jd_min.1 = true ∧ jd_min.1 ≠ yL_law ∧ Cond.code jd_min.1 jd_min.2.1 jd_min.2.2.1 jd_min.2.2.2.1 ∈ lw_g ∧ Cond.initialized jd_min.1.cls ∈ lw_g ∧ (jd_min.1.cls ≠ "java/lang/invoke/MethodHandle" ∧ jd_min.1.cls ≠ "java/lang/invoke/VarHandle" ∧ (parseMethodDescriptor jd_min.1.desc).map (fun d => d.parameters.length) = some 2) := ⟨by decide +kernel, by decide +kernel, lw_a2 159 (by decide +kernel) rfl, lw_a1 9 (by decide +kernel) rfl, by decide +kernel, by decide +kernel, by decide +kernel⟩
theorem pk_hi_remember_40 : mj_KS hi_remember jd_min 40 2 := ⟨⟨p0_jd_min.1, p0_jd_min.2.1, p0_jd_min.2.2.1, p0_jd_min.2.2.2.1, p0_jd_min.2.2.2.2, by decide⟩, lw_a2 157 (by decide +kernel) rfl, lw_a2 158 (by decide +kernel) rfl⟩
theorem p0_hi_latest : plainFor hi_latest.1 = true ∧ hi_latest.1 ≠ yL_law ∧ Cond.code hi_latest.1 hi_latest.2.1 hi_latest.2.2.1 hi_latest.2.2.2.1 ∈ lw_g ∧ Cond.initialized hi_latest.1.cls ∈ lw_g ∧ (hi_latest.1.cls ≠ "java/lang/invoke/MethodHandle" ∧ hi_latest.1.cls ≠ "java/lang/invoke/VarHandle" ∧ (parseMethodDescriptor hi_latest.1.desc).map (fun d => d.parameters.length) = some 0) := ⟨by decide +kernel, by decide +kernel, lw_a5 150 (by decide +kernel) rfl, lw_a1 7 (by decide +kernel) rfl, by decide +kernel, by decide +kernel, by decide +kernel⟩
theorem pk_hi_latestPattern_46 : mj_KV hi_latestPattern hi_latest 46 4 0 := ⟨⟨p0_hi_latest.1, p0_hi_latest.2.1, p0_hi_latest.2.2.1, p0_hi_latest.2.2.2.1, p0_hi_latest.2.2.2.2, by decide⟩, lw_a5 147 (by decide +kernel) rfl, lw_a5 149 (by decide +kernel) rfl, lw_a0 47 (by decide +kernel) rfl, _, _, rfl⟩
theorem pk_hi_giveBack_46 : mj_KV hi_giveBack hi_latest 46 4 0 := ⟨⟨p0_hi_latest.1, p0_hi_latest.2.1, p0_hi_latest.2.2.1, p0_hi_latest.2.2.2.1, p0_hi_latest.2.2.2.2, by decide⟩, lw_a5 147 (by decide +kernel) rfl, lw_a5 149 (by decide +kernel) rfl, lw_a0 47 (by decide +kernel) rfl, _, _, rfl⟩
theorem p0_pa_takeRows : plainFor pa_takeRows.1 = true ∧ pa_takeRows.1 ≠ yL_law ∧ Cond.code pa_takeRows.1 pa_takeRows.2.1 pa_takeRows.2.2.1 pa_takeRows.2.2.2.1 ∈ lw_g ∧ Cond.initialized pa_takeRows.1.cls ∈ lw_g ∧ (pa_takeRows.1.cls ≠ "java/lang/invoke/MethodHandle" ∧ pa_takeRows.1.cls ≠ "java/lang/invoke/VarHandle" ∧ (parseMethodDescriptor pa_takeRows.1.desc).map (fun d => d.parameters.length) = some 3) := ⟨by decide +kernel, by decide +kernel, lw_a3 73 (by decide +kernel) rfl, lw_a1 11 (by decide +kernel) rfl, by decide +kernel, by decide +kernel, by decide +kernel⟩
theorem pk_hi_giveBack_50 : mj_KV hi_giveBack pa_takeRows 50 6 3 := ⟨⟨p0_pa_takeRows.1, p0_pa_takeRows.2.1, p0_pa_takeRows.2.2.1, p0_pa_takeRows.2.2.2.1, p0_pa_takeRows.2.2.2.2, by decide⟩, lw_a5 155 (by decide +kernel) rfl, lw_a3 71 (by decide +kernel) rfl, lw_a3 72 (by decide +kernel) rfl, _, _, rfl⟩
theorem pm_ki_3 : Cond.methodLink RX6 3 objectInit ∈ lw_g := lw_a1 32 (by decide +kernel) rfl
theorem pf_ki_11 : mj_F RX6 11 5 1 6 true (.array .int) := ⟨_, _, rfl, by decide, rfl, rfl, rfl, lw_a1 37 (by decide +kernel) rfl⟩
theorem pf_ki_15 : mj_F RX6 15 5 2 6 true (.array .int) := ⟨_, _, rfl, by decide, rfl, rfl, rfl, lw_a1 38 (by decide +kernel) rfl⟩
theorem pf_ki_18 : mj_F RX6 18 5 3 6 true (.array .boolean) := ⟨_, _, rfl, by decide, rfl, rfl, rfl, lw_a1 39 (by decide +kernel) rfl⟩
theorem pf_ki_22 : mj_F RX6 22 5 4 6 true (.array .int) := ⟨_, _, rfl, by decide, rfl, rfl, rfl, lw_a1 40 (by decide +kernel) rfl⟩
theorem pf_ki_25 : mj_F RX6 25 5 5 6 true (.array .long) := ⟨_, _, rfl, by decide, rfl, rfl, rfl, lw_a1 41 (by decide +kernel) rfl⟩
theorem pi_ki_29 : Cond.constantLong RX6 29 (255) ∈ lw_g := lw_a2 57 (by decide +kernel) rfl
theorem pi_ki_31 : Cond.constantLong RX6 31 (97) ∈ lw_g := lw_a2 58 (by decide +kernel) rfl
theorem pi_ki_33 : Cond.constantLong RX6 33 (122) ∈ lw_g := lw_a2 59 (by decide +kernel) rfl
theorem pi_ki_35 : Cond.constant RX6 35 (65535) ∈ lw_g := lw_a2 63 (by decide +kernel) rfl
theorem pf_ki_36 : mj_F RX6 36 5 0 6 false .int := ⟨_, _, rfl, by decide, rfl, rfl, rfl, lw_a1 35 (by decide +kernel) rfl⟩
theorem p0_ki_isFull : plainFor ki_isFull.1 = true ∧ ki_isFull.1 ≠ yL_law ∧ Cond.code ki_isFull.1 ki_isFull.2.1 ki_isFull.2.2.1 ki_isFull.2.2.2.1 ∈ lw_g ∧ Cond.initialized ki_isFull.1.cls ∈ lw_g ∧ (ki_isFull.1.cls ≠ "java/lang/invoke/MethodHandle" ∧ ki_isFull.1.cls ≠ "java/lang/invoke/VarHandle" ∧ (parseMethodDescriptor ki_isFull.1.desc).map (fun d => d.parameters.length) = some 0) := ⟨by decide +kernel, by decide +kernel, lw_a2 67 (by decide +kernel) rfl, lw_a1 2 (by decide +kernel) rfl, by decide +kernel, by decide +kernel, by decide +kernel⟩
theorem pk_ki_add_40 : mj_KV ki_add ki_isFull 40 5 0 := ⟨⟨p0_ki_isFull.1, p0_ki_isFull.2.1, p0_ki_isFull.2.2.1, p0_ki_isFull.2.2.2.1, p0_ki_isFull.2.2.2.2, by decide⟩, lw_a2 76 (by decide +kernel) rfl, lw_a2 65 (by decide +kernel) rfl, lw_a2 66 (by decide +kernel) rfl, _, _, rfl⟩
theorem pk_ki_cellOf_44 : mj_KV ki_cellOf ki_lies 44 5 2 := ⟨⟨p0_ki_lies.1, p0_ki_lies.2.1, p0_ki_lies.2.2.1, p0_ki_lies.2.2.2.1, p0_ki_lies.2.2.2.2, by decide⟩, lw_a3 9 (by decide +kernel) rfl, lw_a2 93 (by decide +kernel) rfl, lw_a2 94 (by decide +kernel) rfl, _, _, rfl⟩
theorem pk_ki_cellOf_48 : mj_KS ki_cellOf ce_tile 48 3 := ⟨⟨p0_ce_tile.1, p0_ce_tile.2.1, p0_ce_tile.2.2.1, p0_ce_tile.2.2.2.1, p0_ce_tile.2.2.2.2, by decide⟩, lw_a3 10 (by decide +kernel) rfl, lw_a3 11 (by decide +kernel) rfl⟩
theorem pk_ki_movedCell_54 : mj_KS ki_movedCell ce_kindOf 54 1 := ⟨⟨p0_ce_kindOf.1, p0_ce_kindOf.2.1, p0_ce_kindOf.2.2.1, p0_ce_kindOf.2.2.2.1, p0_ce_kindOf.2.2.2.2, by decide⟩, lw_a3 118 (by decide +kernel) rfl, lw_a3 22 (by decide +kernel) rfl⟩
theorem pk_ki_movedCell_58 : mj_KS ki_movedCell ce_moveOf 58 1 := ⟨⟨p0_ce_moveOf.1, p0_ce_moveOf.2.1, p0_ce_moveOf.2.2.1, p0_ce_moveOf.2.2.2.1, p0_ce_moveOf.2.2.2.2, by decide⟩, lw_a3 119 (by decide +kernel) rfl, lw_a3 25 (by decide +kernel) rfl⟩
theorem p0_ki_chained : plainFor ki_chained.1 = true ∧ ki_chained.1 ≠ yL_law ∧ Cond.code ki_chained.1 ki_chained.2.1 ki_chained.2.2.1 ki_chained.2.2.2.1 ∈ lw_g ∧ Cond.initialized ki_chained.1.cls ∈ lw_g ∧ (ki_chained.1.cls ≠ "java/lang/invoke/MethodHandle" ∧ ki_chained.1.cls ≠ "java/lang/invoke/VarHandle" ∧ (parseMethodDescriptor ki_chained.1.desc).map (fun d => d.parameters.length) = some 2) := ⟨by decide +kernel, by decide +kernel, lw_a2 106 (by decide +kernel) rfl, lw_a1 2 (by decide +kernel) rfl, by decide +kernel, by decide +kernel, by decide +kernel⟩
theorem pk_ki_movedCell_61 : mj_KS ki_movedCell ki_chained 61 2 := ⟨⟨p0_ki_chained.1, p0_ki_chained.2.1, p0_ki_chained.2.2.1, p0_ki_chained.2.2.2.1, p0_ki_chained.2.2.2.2, by decide⟩, lw_a3 120 (by decide +kernel) rfl, lw_a2 105 (by decide +kernel) rfl⟩
theorem pk_ki_movedCell_44 : mj_KV ki_movedCell ki_lies 44 5 2 := ⟨⟨p0_ki_lies.1, p0_ki_lies.2.1, p0_ki_lies.2.2.1, p0_ki_lies.2.2.2.1, p0_ki_lies.2.2.2.2, by decide⟩, lw_a3 9 (by decide +kernel) rfl, lw_a2 93 (by decide +kernel) rfl, lw_a2 94 (by decide +kernel) rfl, _, _, rfl⟩
theorem p0_ce_shadeOf : plainFor ce_shadeOf.1 = true ∧ ce_shadeOf.1 ≠ yL_law ∧ Cond.code ce_shadeOf.1 ce_shadeOf.2.1 ce_shadeOf.2.2.1 ce_shadeOf.2.2.2.1 ∈ lw_g ∧ Cond.initialized ce_shadeOf.1.cls ∈ lw_g ∧ (ce_shadeOf.1.cls ≠ "java/lang/invoke/MethodHandle" ∧ ce_shadeOf.1.cls ≠ "java/lang/invoke/VarHandle" ∧ (parseMethodDescriptor ce_shadeOf.1.desc).map (fun d => d.parameters.length) = some 1) := ⟨by decide +kernel, by decide +kernel, lw_a3 36 (by decide +kernel) rfl, lw_a1 14 (by decide +kernel) rfl, by decide +kernel, by decide +kernel, by decide +kernel⟩
theorem pk_ki_movedCell_64 : mj_KS ki_movedCell ce_shadeOf 64 1 := ⟨⟨p0_ce_shadeOf.1, p0_ce_shadeOf.2.1, p0_ce_shadeOf.2.2.1, p0_ce_shadeOf.2.2.2.1, p0_ce_shadeOf.2.2.2.2, by decide⟩, lw_a3 121 (by decide +kernel) rfl, lw_a3 35 (by decide +kernel) rfl⟩
theorem pk_ki_movedCell_48 : mj_KS ki_movedCell ce_tile 48 3 := ⟨⟨p0_ce_tile.1, p0_ce_tile.2.1, p0_ce_tile.2.2.1, p0_ce_tile.2.2.2.1, p0_ce_tile.2.2.2.2, by decide⟩, lw_a3 10 (by decide +kernel) rfl, lw_a3 11 (by decide +kernel) rfl⟩
theorem pk_ki_meet_54 : mj_KS ki_meet ce_kindOf 54 1 := ⟨⟨p0_ce_kindOf.1, p0_ce_kindOf.2.1, p0_ce_kindOf.2.2.1, p0_ce_kindOf.2.2.2.1, p0_ce_kindOf.2.2.2.2, by decide⟩, lw_a3 118 (by decide +kernel) rfl, lw_a3 22 (by decide +kernel) rfl⟩
theorem pk_ki_meet_58 : mj_KS ki_meet ce_moveOf 58 1 := ⟨⟨p0_ce_moveOf.1, p0_ce_moveOf.2.1, p0_ce_moveOf.2.2.1, p0_ce_moveOf.2.2.2.1, p0_ce_moveOf.2.2.2.2, by decide⟩, lw_a3 119 (by decide +kernel) rfl, lw_a3 25 (by decide +kernel) rfl⟩
theorem pk_ki_meet_67 : mj_KV ki_meet ki_colour 67 5 3 := ⟨⟨p0_ki_colour.1, p0_ki_colour.2.1, p0_ki_colour.2.2.1, p0_ki_colour.2.2.2.1, p0_ki_colour.2.2.2.2, by decide⟩, lw_a4 39 (by decide +kernel) rfl, lw_a2 97 (by decide +kernel) rfl, lw_a2 98 (by decide +kernel) rfl, _, _, rfl⟩
theorem pm_pa_3 : Cond.methodLink RX7 3 objectInit ∈ lw_g := lw_a2 115 (by decide +kernel) rfl
theorem pf_pa_11 : mj_F RX7 11 6 1 3 true (.array .int) := ⟨_, _, rfl, by decide, rfl, rfl, rfl, lw_a2 117 (by decide +kernel) rfl⟩
theorem pf_pa_15 : mj_F RX7 15 6 0 3 true (.object "TileOffice$RowStore") := ⟨_, _, rfl, by decide, rfl, rfl, rfl, lw_a2 116 (by decide +kernel) rfl⟩
theorem pf_pa_19 : mj_F RX7 19 6 2 3 false .int := ⟨_, _, rfl, by decide, rfl, rfl, rfl, lw_a2 120 (by decide +kernel) rfl⟩
theorem p0_pa_hasRow : plainFor pa_hasRow.1 = true ∧ pa_hasRow.1 ≠ yL_law ∧ Cond.code pa_hasRow.1 pa_hasRow.2.1 pa_hasRow.2.2.1 pa_hasRow.2.2.2.1 ∈ lw_g ∧ Cond.initialized pa_hasRow.1.cls ∈ lw_g ∧ (pa_hasRow.1.cls ≠ "java/lang/invoke/MethodHandle" ∧ pa_hasRow.1.cls ≠ "java/lang/invoke/VarHandle" ∧ (parseMethodDescriptor pa_hasRow.1.desc).map (fun d => d.parameters.length) = some 1) := ⟨by decide +kernel, by decide +kernel, lw_a2 184 (by decide +kernel) rfl, lw_a1 11 (by decide +kernel) rfl, by decide +kernel, by decide +kernel, by decide +kernel⟩
theorem pk_pa_idAt_23 : mj_KV pa_idAt pa_hasRow 23 6 1 := ⟨⟨p0_pa_hasRow.1, p0_pa_hasRow.2.1, p0_pa_hasRow.2.2.1, p0_pa_hasRow.2.2.2.1, p0_pa_hasRow.2.2.2.2, by decide⟩, lw_a2 189 (by decide +kernel) rfl, lw_a2 182 (by decide +kernel) rfl, lw_a2 183 (by decide +kernel) rfl, _, _, rfl⟩
theorem p0_pa_idAt : plainFor pa_idAt.1 = true ∧ pa_idAt.1 ≠ yL_law ∧ Cond.code pa_idAt.1 pa_idAt.2.1 pa_idAt.2.2.1 pa_idAt.2.2.2.1 ∈ lw_g ∧ Cond.initialized pa_idAt.1.cls ∈ lw_g ∧ (pa_idAt.1.cls ≠ "java/lang/invoke/MethodHandle" ∧ pa_idAt.1.cls ≠ "java/lang/invoke/VarHandle" ∧ (parseMethodDescriptor pa_idAt.1.desc).map (fun d => d.parameters.length) = some 1) := ⟨by decide +kernel, by decide +kernel, lw_a2 197 (by decide +kernel) rfl, lw_a1 11 (by decide +kernel) rfl, by decide +kernel, by decide +kernel, by decide +kernel⟩
theorem pk_pa_lengthAt_27 : mj_KV pa_lengthAt pa_idAt 27 6 1 := ⟨⟨p0_pa_idAt.1, p0_pa_idAt.2.1, p0_pa_idAt.2.2.1, p0_pa_idAt.2.2.2.1, p0_pa_idAt.2.2.2.2, by decide⟩, lw_a2 210 (by decide +kernel) rfl, lw_a2 195 (by decide +kernel) rfl, lw_a2 196 (by decide +kernel) rfl, _, _, rfl⟩
theorem p0_rs_lengthOf : plainFor rs_lengthOf.1 = true ∧ rs_lengthOf.1 ≠ yL_law ∧ Cond.code rs_lengthOf.1 rs_lengthOf.2.1 rs_lengthOf.2.2.1 rs_lengthOf.2.2.2.1 ∈ lw_g ∧ Cond.initialized rs_lengthOf.1.cls ∈ lw_g ∧ (rs_lengthOf.1.cls ≠ "java/lang/invoke/MethodHandle" ∧ rs_lengthOf.1.cls ≠ "java/lang/invoke/VarHandle" ∧ (parseMethodDescriptor rs_lengthOf.1.desc).map (fun d => d.parameters.length) = some 1) := ⟨by decide +kernel, by decide +kernel, lw_a3 56 (by decide +kernel) rfl, lw_a1 6 (by decide +kernel) rfl, by decide +kernel, by decide +kernel, by decide +kernel⟩
theorem pk_pa_lengthAt_31 : mj_KV pa_lengthAt rs_lengthOf 31 7 1 := ⟨⟨p0_rs_lengthOf.1, p0_rs_lengthOf.2.1, p0_rs_lengthOf.2.2.1, p0_rs_lengthOf.2.2.2.1, p0_rs_lengthOf.2.2.2.2, by decide⟩, lw_a3 53 (by decide +kernel) rfl, lw_a3 54 (by decide +kernel) rfl, lw_a3 55 (by decide +kernel) rfl, _, _, rfl⟩
theorem pk_pa_offsetAt_27 : mj_KV pa_offsetAt pa_idAt 27 6 1 := ⟨⟨p0_pa_idAt.1, p0_pa_idAt.2.1, p0_pa_idAt.2.2.1, p0_pa_idAt.2.2.2.1, p0_pa_idAt.2.2.2.2, by decide⟩, lw_a2 210 (by decide +kernel) rfl, lw_a2 195 (by decide +kernel) rfl, lw_a2 196 (by decide +kernel) rfl, _, _, rfl⟩
theorem p0_rs_offsetOf : plainFor rs_offsetOf.1 = true ∧ rs_offsetOf.1 ≠ yL_law ∧ Cond.code rs_offsetOf.1 rs_offsetOf.2.1 rs_offsetOf.2.2.1 rs_offsetOf.2.2.2.1 ∈ lw_g ∧ Cond.initialized rs_offsetOf.1.cls ∈ lw_g ∧ (rs_offsetOf.1.cls ≠ "java/lang/invoke/MethodHandle" ∧ rs_offsetOf.1.cls ≠ "java/lang/invoke/VarHandle" ∧ (parseMethodDescriptor rs_offsetOf.1.desc).map (fun d => d.parameters.length) = some 1) := ⟨by decide +kernel, by decide +kernel, lw_a2 222 (by decide +kernel) rfl, lw_a1 6 (by decide +kernel) rfl, by decide +kernel, by decide +kernel, by decide +kernel⟩
theorem pk_pa_offsetAt_37 : mj_KV pa_offsetAt rs_offsetOf 37 7 1 := ⟨⟨p0_rs_offsetOf.1, p0_rs_offsetOf.2.1, p0_rs_offsetOf.2.2.1, p0_rs_offsetOf.2.2.2.1, p0_rs_offsetOf.2.2.2.2, by decide⟩, lw_a3 61 (by decide +kernel) rfl, lw_a2 220 (by decide +kernel) rfl, lw_a2 221 (by decide +kernel) rfl, _, _, rfl⟩
theorem pk_pa_cellAt_27 : mj_KV pa_cellAt pa_idAt 27 6 1 := ⟨⟨p0_pa_idAt.1, p0_pa_idAt.2.1, p0_pa_idAt.2.2.1, p0_pa_idAt.2.2.2.1, p0_pa_idAt.2.2.2.2, by decide⟩, lw_a2 210 (by decide +kernel) rfl, lw_a2 195 (by decide +kernel) rfl, lw_a2 196 (by decide +kernel) rfl, _, _, rfl⟩
theorem p0_rs_cellAt : plainFor rs_cellAt.1 = true ∧ rs_cellAt.1 ≠ yL_law ∧ Cond.code rs_cellAt.1 rs_cellAt.2.1 rs_cellAt.2.2.1 rs_cellAt.2.2.2.1 ∈ lw_g ∧ Cond.initialized rs_cellAt.1.cls ∈ lw_g ∧ (rs_cellAt.1.cls ≠ "java/lang/invoke/MethodHandle" ∧ rs_cellAt.1.cls ≠ "java/lang/invoke/VarHandle" ∧ (parseMethodDescriptor rs_cellAt.1.desc).map (fun d => d.parameters.length) = some 2) := ⟨by decide +kernel, by decide +kernel, lw_a2 214 (by decide +kernel) rfl, lw_a1 6 (by decide +kernel) rfl, by decide +kernel, by decide +kernel, by decide +kernel⟩
theorem pk_pa_cellAt_40 : mj_KV pa_cellAt rs_cellAt 40 7 2 := ⟨⟨p0_rs_cellAt.1, p0_rs_cellAt.2.1, p0_rs_cellAt.2.2.1, p0_rs_cellAt.2.2.2.1, p0_rs_cellAt.2.2.2.2, by decide⟩, lw_a2 211 (by decide +kernel) rfl, lw_a2 212 (by decide +kernel) rfl, lw_a2 213 (by decide +kernel) rfl, _, _, rfl⟩
theorem pm_pa_44 : Cond.methodLink RX7 44 arraycopyName ∈ lw_g := lw_a2 176 (by decide +kernel) rfl
theorem pk_pa_removeId_23 : mj_KV pa_removeId pa_hasRow 23 6 1 := ⟨⟨p0_pa_hasRow.1, p0_pa_hasRow.2.1, p0_pa_hasRow.2.2.1, p0_pa_hasRow.2.2.2.1, p0_pa_hasRow.2.2.2.2, by decide⟩, lw_a2 189 (by decide +kernel) rfl, lw_a2 182 (by decide +kernel) rfl, lw_a2 183 (by decide +kernel) rfl, _, _, rfl⟩
theorem pk_pa_renewRow_27 : mj_KV pa_renewRow pa_idAt 27 6 1 := ⟨⟨p0_pa_idAt.1, p0_pa_idAt.2.1, p0_pa_idAt.2.2.1, p0_pa_idAt.2.2.2.1, p0_pa_idAt.2.2.2.2, by decide⟩, lw_a2 210 (by decide +kernel) rfl, lw_a2 195 (by decide +kernel) rfl, lw_a2 196 (by decide +kernel) rfl, _, _, rfl⟩
theorem p0_rs_makeLike : plainFor rs_makeLike.1 = true ∧ rs_makeLike.1 ≠ yL_law ∧ Cond.code rs_makeLike.1 rs_makeLike.2.1 rs_makeLike.2.2.1 rs_makeLike.2.2.2.1 ∈ lw_g ∧ Cond.initialized rs_makeLike.1.cls ∈ lw_g ∧ (rs_makeLike.1.cls ≠ "java/lang/invoke/MethodHandle" ∧ rs_makeLike.1.cls ≠ "java/lang/invoke/VarHandle" ∧ (parseMethodDescriptor rs_makeLike.1.desc).map (fun d => d.parameters.length) = some 1) := ⟨by decide +kernel, by decide +kernel, lw_a2 230 (by decide +kernel) rfl, lw_a1 6 (by decide +kernel) rfl, by decide +kernel, by decide +kernel, by decide +kernel⟩
theorem pk_pa_renewRow_50 : mj_KV pa_renewRow rs_makeLike 50 7 1 := ⟨⟨p0_rs_makeLike.1, p0_rs_makeLike.2.1, p0_rs_makeLike.2.2.1, p0_rs_makeLike.2.2.2.1, p0_rs_makeLike.2.2.2.2, by decide⟩, lw_a2 227 (by decide +kernel) rfl, lw_a2 228 (by decide +kernel) rfl, lw_a2 229 (by decide +kernel) rfl, _, _, rfl⟩
theorem pk_pa_renewRow_23 : mj_KV pa_renewRow pa_hasRow 23 6 1 := ⟨⟨p0_pa_hasRow.1, p0_pa_hasRow.2.1, p0_pa_hasRow.2.2.1, p0_pa_hasRow.2.2.2.1, p0_pa_hasRow.2.2.2.2, by decide⟩, lw_a2 189 (by decide +kernel) rfl, lw_a2 182 (by decide +kernel) rfl, lw_a2 183 (by decide +kernel) rfl, _, _, rfl⟩
theorem p0_pa_offsetAt : plainFor pa_offsetAt.1 = true ∧ pa_offsetAt.1 ≠ yL_law ∧ Cond.code pa_offsetAt.1 pa_offsetAt.2.1 pa_offsetAt.2.2.1 pa_offsetAt.2.2.2.1 ∈ lw_g ∧ Cond.initialized pa_offsetAt.1.cls ∈ lw_g ∧ (pa_offsetAt.1.cls ≠ "java/lang/invoke/MethodHandle" ∧ pa_offsetAt.1.cls ≠ "java/lang/invoke/VarHandle" ∧ (parseMethodDescriptor pa_offsetAt.1.desc).map (fun d => d.parameters.length) = some 1) := ⟨by decide +kernel, by decide +kernel, lw_a3 60 (by decide +kernel) rfl, lw_a1 11 (by decide +kernel) rfl, by decide +kernel, by decide +kernel, by decide +kernel⟩
theorem pk_pa_isFull_53 : mj_KV pa_isFull pa_offsetAt 53 6 1 := ⟨⟨p0_pa_offsetAt.1, p0_pa_offsetAt.2.1, p0_pa_offsetAt.2.2.1, p0_pa_offsetAt.2.2.2.1, p0_pa_offsetAt.2.2.2.2, by decide⟩, lw_a3 204 (by decide +kernel) rfl, lw_a3 58 (by decide +kernel) rfl, lw_a3 59 (by decide +kernel) rfl, _, _, rfl⟩
theorem pk_pa_isFull_56 : mj_KV pa_isFull pa_lengthAt 56 6 1 := ⟨⟨p0_pa_lengthAt.1, p0_pa_lengthAt.2.1, p0_pa_lengthAt.2.2.1, p0_pa_lengthAt.2.2.2.1, p0_pa_lengthAt.2.2.2.2, by decide⟩, lw_a3 203 (by decide +kernel) rfl, lw_a3 50 (by decide +kernel) rfl, lw_a3 51 (by decide +kernel) rfl, _, _, rfl⟩
theorem pk_pa_mayGrow_56 : mj_KV pa_mayGrow pa_lengthAt 56 6 1 := ⟨⟨p0_pa_lengthAt.1, p0_pa_lengthAt.2.1, p0_pa_lengthAt.2.2.1, p0_pa_lengthAt.2.2.2.1, p0_pa_lengthAt.2.2.2.2, by decide⟩, lw_a3 203 (by decide +kernel) rfl, lw_a3 50 (by decide +kernel) rfl, lw_a3 51 (by decide +kernel) rfl, _, _, rfl⟩
theorem pk_pa_mayGrow_53 : mj_KV pa_mayGrow pa_offsetAt 53 6 1 := ⟨⟨p0_pa_offsetAt.1, p0_pa_offsetAt.2.1, p0_pa_offsetAt.2.2.1, p0_pa_offsetAt.2.2.2.1, p0_pa_offsetAt.2.2.2.2, by decide⟩, lw_a3 204 (by decide +kernel) rfl, lw_a3 58 (by decide +kernel) rfl, lw_a3 59 (by decide +kernel) rfl, _, _, rfl⟩
theorem p0_rs_mayBe : plainFor rs_mayBe.1 = true ∧ rs_mayBe.1 ≠ yL_law ∧ Cond.code rs_mayBe.1 rs_mayBe.2.1 rs_mayBe.2.2.1 rs_mayBe.2.2.2.1 ∈ lw_g ∧ Cond.initialized rs_mayBe.1.cls ∈ lw_g ∧ (rs_mayBe.1.cls ≠ "java/lang/invoke/MethodHandle" ∧ rs_mayBe.1.cls ≠ "java/lang/invoke/VarHandle" ∧ (parseMethodDescriptor rs_mayBe.1.desc).map (fun d => d.parameters.length) = some 2) := ⟨by decide +kernel, by decide +kernel, lw_a2 145 (by decide +kernel) rfl, lw_a1 6 (by decide +kernel) rfl, by decide +kernel, by decide +kernel, by decide +kernel⟩
theorem pk_pa_mayGrow_59 : mj_KS pa_mayGrow rs_mayBe 59 2 := ⟨⟨p0_rs_mayBe.1, p0_rs_mayBe.2.1, p0_rs_mayBe.2.2.1, p0_rs_mayBe.2.2.2.1, p0_rs_mayBe.2.2.2.2, by decide⟩, lw_a3 205 (by decide +kernel) rfl, lw_a2 144 (by decide +kernel) rfl⟩
theorem pf_pa_63 : mj_F RX7 63 0 0 3 false .int := ⟨_, _, rfl, by decide, rfl, rfl, rfl, lw_a1 225 (by decide +kernel) rfl⟩
theorem pf_pa_68 : mj_F RX7 68 0 1 3 false .int := ⟨_, _, rfl, by decide, rfl, rfl, rfl, lw_a1 229 (by decide +kernel) rfl⟩
theorem pk_pa_isBlock_56 : mj_KV pa_isBlock pa_lengthAt 56 6 1 := ⟨⟨p0_pa_lengthAt.1, p0_pa_lengthAt.2.1, p0_pa_lengthAt.2.2.1, p0_pa_lengthAt.2.2.2.1, p0_pa_lengthAt.2.2.2.2, by decide⟩, lw_a3 203 (by decide +kernel) rfl, lw_a3 50 (by decide +kernel) rfl, lw_a3 51 (by decide +kernel) rfl, _, _, rfl⟩
theorem p0_pa_bears : plainFor pa_bears.1 = true ∧ pa_bears.1 ≠ yL_law ∧ Cond.code pa_bears.1 pa_bears.2.1 pa_bears.2.2.1 pa_bears.2.2.2.1 ∈ lw_g ∧ Cond.initialized pa_bears.1.cls ∈ lw_g ∧ (pa_bears.1.cls ≠ "java/lang/invoke/MethodHandle" ∧ pa_bears.1.cls ≠ "java/lang/invoke/VarHandle" ∧ (parseMethodDescriptor pa_bears.1.desc).map (fun d => d.parameters.length) = some 3) := ⟨by decide +kernel, by decide +kernel, lw_a4 68 (by decide +kernel) rfl, lw_a1 11 (by decide +kernel) rfl, by decide +kernel, by decide +kernel, by decide +kernel⟩
theorem pk_pa_isBlock_71 : mj_KV pa_isBlock pa_bears 71 6 3 := ⟨⟨p0_pa_bears.1, p0_pa_bears.2.1, p0_pa_bears.2.2.1, p0_pa_bears.2.2.2.1, p0_pa_bears.2.2.2.2, by decide⟩, lw_a4 65 (by decide +kernel) rfl, lw_a4 66 (by decide +kernel) rfl, lw_a4 67 (by decide +kernel) rfl, _, _, rfl⟩
theorem pk_pa_bears_27 : mj_KV pa_bears pa_idAt 27 6 1 := ⟨⟨p0_pa_idAt.1, p0_pa_idAt.2.1, p0_pa_idAt.2.2.1, p0_pa_idAt.2.2.2.1, p0_pa_idAt.2.2.2.2, by decide⟩, lw_a2 210 (by decide +kernel) rfl, lw_a2 195 (by decide +kernel) rfl, lw_a2 196 (by decide +kernel) rfl, _, _, rfl⟩
theorem p0_rs_bears : plainFor rs_bears.1 = true ∧ rs_bears.1 ≠ yL_law ∧ Cond.code rs_bears.1 rs_bears.2.1 rs_bears.2.2.1 rs_bears.2.2.2.1 ∈ lw_g ∧ Cond.initialized rs_bears.1.cls ∈ lw_g ∧ (rs_bears.1.cls ≠ "java/lang/invoke/MethodHandle" ∧ rs_bears.1.cls ≠ "java/lang/invoke/VarHandle" ∧ (parseMethodDescriptor rs_bears.1.desc).map (fun d => d.parameters.length) = some 4) := ⟨by decide +kernel, by decide +kernel, lw_a4 72 (by decide +kernel) rfl, lw_a1 6 (by decide +kernel) rfl, by decide +kernel, by decide +kernel, by decide +kernel⟩
theorem pk_pa_bears_75 : mj_KV pa_bears rs_bears 75 7 4 := ⟨⟨p0_rs_bears.1, p0_rs_bears.2.1, p0_rs_bears.2.2.1, p0_rs_bears.2.2.2.1, p0_rs_bears.2.2.2.2, by decide⟩, lw_a4 69 (by decide +kernel) rfl, lw_a4 70 (by decide +kernel) rfl, lw_a4 71 (by decide +kernel) rfl, _, _, rfl⟩
theorem pm_rs_3 : Cond.methodLink RX8 3 objectInit ∈ lw_g := lw_a1 176 (by decide +kernel) rfl
theorem pf_rs_11 : mj_F RX8 11 7 1 3 true (.array .int) := ⟨_, _, rfl, by decide, rfl, rfl, rfl, lw_a1 181 (by decide +kernel) rfl⟩
theorem pc_rs_15 : Cond.classLink RX8 15 "[I" ∈ lw_g := lw_a1 177 (by decide +kernel) rfl
theorem pf_rs_16 : mj_F RX8 16 7 2 3 true (.array (.array .int)) := ⟨_, _, rfl, by decide, rfl, rfl, rfl, lw_a1 182 (by decide +kernel) rfl⟩
theorem pf_rs_20 : mj_F RX8 20 7 0 3 false .int := ⟨_, _, rfl, by decide, rfl, rfl, rfl, lw_a1 179 (by decide +kernel) rfl⟩
theorem pk_rs_make_24 : mj_KS rs_make rs_mayBe 24 2 := ⟨⟨p0_rs_mayBe.1, p0_rs_mayBe.2.1, p0_rs_mayBe.2.2.1, p0_rs_mayBe.2.2.2.1, p0_rs_mayBe.2.2.2.2, by decide⟩, lw_a2 164 (by decide +kernel) rfl, lw_a2 144 (by decide +kernel) rfl⟩
theorem pk_rs_make_30 : mj_KS rs_make jd_fillI 30 2 := ⟨⟨p0_jd_fillI.1, p0_jd_fillI.2.1, p0_jd_fillI.2.2.1, p0_jd_fillI.2.2.2.1, p0_jd_fillI.2.2.2.2, by decide⟩, lw_a2 165 (by decide +kernel) rfl, lw_a2 166 (by decide +kernel) rfl⟩
theorem p0_rs_enter : plainFor rs_enter.1 = true ∧ rs_enter.1 ≠ yL_law ∧ Cond.code rs_enter.1 rs_enter.2.1 rs_enter.2.2.1 rs_enter.2.2.2.1 ∈ lw_g ∧ Cond.initialized rs_enter.1.cls ∈ lw_g ∧ (rs_enter.1.cls ≠ "java/lang/invoke/MethodHandle" ∧ rs_enter.1.cls ≠ "java/lang/invoke/VarHandle" ∧ (parseMethodDescriptor rs_enter.1.desc).map (fun d => d.parameters.length) = some 2) := ⟨by decide +kernel, by decide +kernel, lw_a2 171 (by decide +kernel) rfl, lw_a1 6 (by decide +kernel) rfl, by decide +kernel, by decide +kernel, by decide +kernel⟩
theorem pk_rs_make_36 : mj_KV rs_make rs_enter 36 7 2 := ⟨⟨p0_rs_enter.1, p0_rs_enter.2.1, p0_rs_enter.2.2.1, p0_rs_enter.2.2.2.1, p0_rs_enter.2.2.2.2, by decide⟩, lw_a2 168 (by decide +kernel) rfl, lw_a2 170 (by decide +kernel) rfl, lw_a0 2 (by decide +kernel) rfl, _, _, rfl⟩
theorem p0_rs_cellsOf : plainFor rs_cellsOf.1 = true ∧ rs_cellsOf.1 ≠ yL_law ∧ Cond.code rs_cellsOf.1 rs_cellsOf.2.1 rs_cellsOf.2.2.1 rs_cellsOf.2.2.2.1 ∈ lw_g ∧ Cond.initialized rs_cellsOf.1.cls ∈ lw_g ∧ (rs_cellsOf.1.cls ≠ "java/lang/invoke/MethodHandle" ∧ rs_cellsOf.1.cls ≠ "java/lang/invoke/VarHandle" ∧ (parseMethodDescriptor rs_cellsOf.1.desc).map (fun d => d.parameters.length) = some 1) := ⟨by decide +kernel, by decide +kernel, lw_a2 218 (by decide +kernel) rfl, lw_a1 6 (by decide +kernel) rfl, by decide +kernel, by decide +kernel, by decide +kernel⟩
theorem pk_rs_makeLike_40 : mj_KV rs_makeLike rs_cellsOf 40 7 1 := ⟨⟨p0_rs_cellsOf.1, p0_rs_cellsOf.2.1, p0_rs_cellsOf.2.2.1, p0_rs_cellsOf.2.2.2.1, p0_rs_cellsOf.2.2.2.2, by decide⟩, lw_a2 215 (by decide +kernel) rfl, lw_a2 217 (by decide +kernel) rfl, lw_a0 4 (by decide +kernel) rfl, _, _, rfl⟩
theorem pm_rs_44 : Cond.methodLink RX8 44 ⟨"[I", "clone", "()Ljava/lang/Object;"⟩ ∈ lw_g := lw_a2 231 (by decide +kernel) rfl
theorem pk_rs_makeLike_48 : mj_KV rs_makeLike rs_offsetOf 48 7 1 := ⟨⟨p0_rs_offsetOf.1, p0_rs_offsetOf.2.1, p0_rs_offsetOf.2.2.1, p0_rs_offsetOf.2.2.2.1, p0_rs_offsetOf.2.2.2.2, by decide⟩, lw_a2 219 (by decide +kernel) rfl, lw_a2 220 (by decide +kernel) rfl, lw_a2 221 (by decide +kernel) rfl, _, _, rfl⟩
theorem pk_rs_makeLike_36 : mj_KV rs_makeLike rs_enter 36 7 2 := ⟨⟨p0_rs_enter.1, p0_rs_enter.2.1, p0_rs_enter.2.2.1, p0_rs_enter.2.2.2.1, p0_rs_enter.2.2.2.2, by decide⟩, lw_a2 168 (by decide +kernel) rfl, lw_a2 170 (by decide +kernel) rfl, lw_a0 2 (by decide +kernel) rfl, _, _, rfl⟩
theorem pk_rs_lengthOf_40 : mj_KV rs_lengthOf rs_cellsOf 40 7 1 := ⟨⟨p0_rs_cellsOf.1, p0_rs_cellsOf.2.1, p0_rs_cellsOf.2.2.1, p0_rs_cellsOf.2.2.2.1, p0_rs_cellsOf.2.2.2.2, by decide⟩, lw_a2 215 (by decide +kernel) rfl, lw_a2 217 (by decide +kernel) rfl, lw_a0 4 (by decide +kernel) rfl, _, _, rfl⟩
theorem pk_rs_cellAt_40 : mj_KV rs_cellAt rs_cellsOf 40 7 1 := ⟨⟨p0_rs_cellsOf.1, p0_rs_cellsOf.2.1, p0_rs_cellsOf.2.2.1, p0_rs_cellsOf.2.2.2.1, p0_rs_cellsOf.2.2.2.2, by decide⟩, lw_a2 215 (by decide +kernel) rfl, lw_a2 217 (by decide +kernel) rfl, lw_a0 4 (by decide +kernel) rfl, _, _, rfl⟩
theorem pk_rs_cellAt_48 : mj_KV rs_cellAt rs_offsetOf 48 7 1 := ⟨⟨p0_rs_offsetOf.1, p0_rs_offsetOf.2.1, p0_rs_offsetOf.2.2.1, p0_rs_offsetOf.2.2.2.1, p0_rs_offsetOf.2.2.2.2, by decide⟩, lw_a2 219 (by decide +kernel) rfl, lw_a2 220 (by decide +kernel) rfl, lw_a2 221 (by decide +kernel) rfl, _, _, rfl⟩
theorem pk_rs_setCell_40 : mj_KV rs_setCell rs_cellsOf 40 7 1 := ⟨⟨p0_rs_cellsOf.1, p0_rs_cellsOf.2.1, p0_rs_cellsOf.2.2.1, p0_rs_cellsOf.2.2.2.1, p0_rs_cellsOf.2.2.2.2, by decide⟩, lw_a2 215 (by decide +kernel) rfl, lw_a2 217 (by decide +kernel) rfl, lw_a0 4 (by decide +kernel) rfl, _, _, rfl⟩
theorem pk_rs_setCell_48 : mj_KV rs_setCell rs_offsetOf 48 7 1 := ⟨⟨p0_rs_offsetOf.1, p0_rs_offsetOf.2.1, p0_rs_offsetOf.2.2.1, p0_rs_offsetOf.2.2.2.1, p0_rs_offsetOf.2.2.2.2, by decide⟩, lw_a2 219 (by decide +kernel) rfl, lw_a2 220 (by decide +kernel) rfl, lw_a2 221 (by decide +kernel) rfl, _, _, rfl⟩
theorem pk_rs_bears_40 : mj_KV rs_bears rs_cellsOf 40 7 1 := ⟨⟨p0_rs_cellsOf.1, p0_rs_cellsOf.2.1, p0_rs_cellsOf.2.2.1, p0_rs_cellsOf.2.2.2.1, p0_rs_cellsOf.2.2.2.2, by decide⟩, lw_a2 215 (by decide +kernel) rfl, lw_a2 217 (by decide +kernel) rfl, lw_a0 4 (by decide +kernel) rfl, _, _, rfl⟩
theorem pk_rs_bears_48 : mj_KV rs_bears rs_offsetOf 48 7 1 := ⟨⟨p0_rs_offsetOf.1, p0_rs_offsetOf.2.1, p0_rs_offsetOf.2.2.1, p0_rs_offsetOf.2.2.2.1, p0_rs_offsetOf.2.2.2.2, by decide⟩, lw_a2 219 (by decide +kernel) rfl, lw_a2 220 (by decide +kernel) rfl, lw_a2 221 (by decide +kernel) rfl, _, _, rfl⟩
theorem pf_rs_52 : mj_F RX8 52 0 1 3 false .int := ⟨_, _, rfl, by decide, rfl, rfl, rfl, lw_a1 228 (by decide +kernel) rfl⟩
theorem pf_rs_57 : mj_F RX8 57 0 2 3 true (.array .int) := ⟨_, _, rfl, by decide, rfl, rfl, rfl, lw_a1 232 (by decide +kernel) rfl⟩
theorem pm_ru_5 : Cond.methodLink RX9 5 objectInit ∈ lw_g := lw_a3 150 (by decide +kernel) rfl
theorem pf_ru_13 : mj_F RX9 13 8 2 5 true (.array .int) := ⟨_, _, rfl, by decide, rfl, rfl, rfl, lw_a3 156 (by decide +kernel) rfl⟩
theorem pf_ru_17 : mj_F RX9 17 8 3 5 true (.array .long) := ⟨_, _, rfl, by decide, rfl, rfl, rfl, lw_a3 157 (by decide +kernel) rfl⟩
theorem pf_ru_21 : mj_F RX9 21 8 4 5 true (.array .long) := ⟨_, _, rfl, by decide, rfl, rfl, rfl, lw_a3 158 (by decide +kernel) rfl⟩
theorem pf_ru_24 : mj_F RX9 24 8 0 5 true .int := ⟨_, _, rfl, by decide, rfl, rfl, rfl, lw_a3 152 (by decide +kernel) rfl⟩
theorem pf_ru_28 : mj_F RX9 28 8 1 5 true .int := ⟨_, _, rfl, by decide, rfl, rfl, rfl, lw_a3 154 (by decide +kernel) rfl⟩
theorem pk_ru_init_33 : mj_KS ru_init jd_fillI 33 2 := ⟨⟨p0_jd_fillI.1, p0_jd_fillI.2.1, p0_jd_fillI.2.2.1, p0_jd_fillI.2.2.2.1, p0_jd_fillI.2.2.2.2, by decide⟩, lw_a3 151 (by decide +kernel) rfl, lw_a2 166 (by decide +kernel) rfl⟩
theorem p0_ru_hasPlace : plainFor ru_hasPlace.1 = true ∧ ru_hasPlace.1 ≠ yL_law ∧ Cond.code ru_hasPlace.1 ru_hasPlace.2.1 ru_hasPlace.2.2.1 ru_hasPlace.2.2.2.1 ∈ lw_g ∧ Cond.initialized ru_hasPlace.1.cls ∈ lw_g ∧ (ru_hasPlace.1.cls ≠ "java/lang/invoke/MethodHandle" ∧ ru_hasPlace.1.cls ≠ "java/lang/invoke/VarHandle" ∧ (parseMethodDescriptor ru_hasPlace.1.desc).map (fun d => d.parameters.length) = some 2) := ⟨by decide +kernel, by decide +kernel, lw_a3 181 (by decide +kernel) rfl, lw_a1 15 (by decide +kernel) rfl, by decide +kernel, by decide +kernel, by decide +kernel⟩
theorem pk_ru_hasCell_39 : mj_KV ru_hasCell ru_hasPlace 39 8 2 := ⟨⟨p0_ru_hasPlace.1, p0_ru_hasPlace.2.1, p0_ru_hasPlace.2.2.1, p0_ru_hasPlace.2.2.2.1, p0_ru_hasPlace.2.2.2.2, by decide⟩, lw_a3 190 (by decide +kernel) rfl, lw_a3 179 (by decide +kernel) rfl, lw_a3 180 (by decide +kernel) rfl, _, _, rfl⟩
theorem p0_ru_hasCell : plainFor ru_hasCell.1 = true ∧ ru_hasCell.1 ≠ yL_law ∧ Cond.code ru_hasCell.1 ru_hasCell.2.1 ru_hasCell.2.2.1 ru_hasCell.2.2.2.1 ∈ lw_g ∧ Cond.initialized ru_hasCell.1.cls ∈ lw_g ∧ (ru_hasCell.1.cls ≠ "java/lang/invoke/MethodHandle" ∧ ru_hasCell.1.cls ≠ "java/lang/invoke/VarHandle" ∧ (parseMethodDescriptor ru_hasCell.1.desc).map (fun d => d.parameters.length) = some 3) := ⟨by decide +kernel, by decide +kernel, lw_a3 189 (by decide +kernel) rfl, lw_a1 15 (by decide +kernel) rfl, by decide +kernel, by decide +kernel, by decide +kernel⟩
theorem pk_ru_setCell_43 : mj_KV ru_setCell ru_hasCell 43 8 3 := ⟨⟨p0_ru_hasCell.1, p0_ru_hasCell.2.1, p0_ru_hasCell.2.2.1, p0_ru_hasCell.2.2.2.1, p0_ru_hasCell.2.2.2.2, by decide⟩, lw_a3 186 (by decide +kernel) rfl, lw_a3 188 (by decide +kernel) rfl, lw_a0 13 (by decide +kernel) rfl, _, _, rfl⟩
theorem pk_ru_cellAt_43 : mj_KV ru_cellAt ru_hasCell 43 8 3 := ⟨⟨p0_ru_hasCell.1, p0_ru_hasCell.2.1, p0_ru_hasCell.2.2.1, p0_ru_hasCell.2.2.2.1, p0_ru_hasCell.2.2.2.2, by decide⟩, lw_a3 186 (by decide +kernel) rfl, lw_a3 188 (by decide +kernel) rfl, lw_a0 13 (by decide +kernel) rfl, _, _, rfl⟩
theorem pk_ru_childOf_47 : mj_KS ru_childOf ce_moveOf 47 1 := ⟨⟨p0_ce_moveOf.1, p0_ce_moveOf.2.1, p0_ce_moveOf.2.2.1, p0_ce_moveOf.2.2.2.1, p0_ce_moveOf.2.2.2.2, by decide⟩, lw_a3 224 (by decide +kernel) rfl, lw_a3 25 (by decide +kernel) rfl⟩
theorem p0_ru_rowBefore : plainFor ru_rowBefore.1 = true ∧ ru_rowBefore.1 ≠ yL_law ∧ Cond.code ru_rowBefore.1 ru_rowBefore.2.1 ru_rowBefore.2.2.1 ru_rowBefore.2.2.2.1 ∈ lw_g ∧ Cond.initialized ru_rowBefore.1.cls ∈ lw_g ∧ (ru_rowBefore.1.cls ≠ "java/lang/invoke/MethodHandle" ∧ ru_rowBefore.1.cls ≠ "java/lang/invoke/VarHandle" ∧ (parseMethodDescriptor ru_rowBefore.1.desc).map (fun d => d.parameters.length) = some 3) := ⟨by decide +kernel, by decide +kernel, lw_a3 228 (by decide +kernel) rfl, lw_a1 15 (by decide +kernel) rfl, by decide +kernel, by decide +kernel, by decide +kernel⟩
theorem pk_ru_childOf_51 : mj_KV ru_childOf ru_rowBefore 51 8 3 := ⟨⟨p0_ru_rowBefore.1, p0_ru_rowBefore.2.1, p0_ru_rowBefore.2.2.1, p0_ru_rowBefore.2.2.2.1, p0_ru_rowBefore.2.2.2.2, by decide⟩, lw_a3 225 (by decide +kernel) rfl, lw_a3 227 (by decide +kernel) rfl, lw_a0 16 (by decide +kernel) rfl, _, _, rfl⟩
theorem p0_ru_columnBefore : plainFor ru_columnBefore.1 = true ∧ ru_columnBefore.1 ≠ yL_law ∧ Cond.code ru_columnBefore.1 ru_columnBefore.2.1 ru_columnBefore.2.2.1 ru_columnBefore.2.2.2.1 ∈ lw_g ∧ Cond.initialized ru_columnBefore.1.cls ∈ lw_g ∧ (ru_columnBefore.1.cls ≠ "java/lang/invoke/MethodHandle" ∧ ru_columnBefore.1.cls ≠ "java/lang/invoke/VarHandle" ∧ (parseMethodDescriptor ru_columnBefore.1.desc).map (fun d => d.parameters.length) = some 3) := ⟨by decide +kernel, by decide +kernel, lw_a3 232 (by decide +kernel) rfl, lw_a1 15 (by decide +kernel) rfl, by decide +kernel, by decide +kernel, by decide +kernel⟩
theorem pk_ru_childOf_55 : mj_KV ru_childOf ru_columnBefore 55 8 3 := ⟨⟨p0_ru_columnBefore.1, p0_ru_columnBefore.2.1, p0_ru_columnBefore.2.2.1, p0_ru_columnBefore.2.2.2.1, p0_ru_columnBefore.2.2.2.2, by decide⟩, lw_a3 229 (by decide +kernel) rfl, lw_a3 231 (by decide +kernel) rfl, lw_a0 17 (by decide +kernel) rfl, _, _, rfl⟩
theorem pk_ru_childOf_58 : mj_KS ru_childOf ce_kindOf 58 1 := ⟨⟨p0_ce_kindOf.1, p0_ce_kindOf.2.1, p0_ce_kindOf.2.2.1, p0_ce_kindOf.2.2.2.1, p0_ce_kindOf.2.2.2.2, by decide⟩, lw_a3 233 (by decide +kernel) rfl, lw_a3 22 (by decide +kernel) rfl⟩
theorem p0_ru_cellAt : plainFor ru_cellAt.1 = true ∧ ru_cellAt.1 ≠ yL_law ∧ Cond.code ru_cellAt.1 ru_cellAt.2.1 ru_cellAt.2.2.1 ru_cellAt.2.2.2.1 ∈ lw_g ∧ Cond.initialized ru_cellAt.1.cls ∈ lw_g ∧ (ru_cellAt.1.cls ≠ "java/lang/invoke/MethodHandle" ∧ ru_cellAt.1.cls ≠ "java/lang/invoke/VarHandle" ∧ (parseMethodDescriptor ru_cellAt.1.desc).map (fun d => d.parameters.length) = some 3) := ⟨by decide +kernel, by decide +kernel, lw_a3 237 (by decide +kernel) rfl, lw_a1 15 (by decide +kernel) rfl, by decide +kernel, by decide +kernel, by decide +kernel⟩
theorem pk_ru_childOf_61 : mj_KV ru_childOf ru_cellAt 61 8 3 := ⟨⟨p0_ru_cellAt.1, p0_ru_cellAt.2.1, p0_ru_cellAt.2.2.1, p0_ru_cellAt.2.2.2.1, p0_ru_cellAt.2.2.2.2, by decide⟩, lw_a3 234 (by decide +kernel) rfl, lw_a3 236 (by decide +kernel) rfl, lw_a0 18 (by decide +kernel) rfl, _, _, rfl⟩
theorem pk_ru_childOf_64 : mj_KV ru_childOf ki_movedCell 64 5 2 := ⟨⟨p0_ki_movedCell.1, p0_ki_movedCell.2.1, p0_ki_movedCell.2.2.1, p0_ki_movedCell.2.2.2.1, p0_ki_movedCell.2.2.2.2, by decide⟩, lw_a3 238 (by decide +kernel) rfl, lw_a3 115 (by decide +kernel) rfl, lw_a3 116 (by decide +kernel) rfl, _, _, rfl⟩
theorem pk_ru_childOf_68 : mj_KS ru_childOf ce_shadeOf 68 1 := ⟨⟨p0_ce_shadeOf.1, p0_ce_shadeOf.2.1, p0_ce_shadeOf.2.2.1, p0_ce_shadeOf.2.2.2.1, p0_ce_shadeOf.2.2.2.2, by decide⟩, lw_a3 239 (by decide +kernel) rfl, lw_a3 35 (by decide +kernel) rfl⟩
theorem p0_ce_shaded : plainFor ce_shaded.1 = true ∧ ce_shaded.1 ≠ yL_law ∧ Cond.code ce_shaded.1 ce_shaded.2.1 ce_shaded.2.2.1 ce_shaded.2.2.2.1 ∈ lw_g ∧ Cond.initialized ce_shaded.1.cls ∈ lw_g ∧ (ce_shaded.1.cls ≠ "java/lang/invoke/MethodHandle" ∧ ce_shaded.1.cls ≠ "java/lang/invoke/VarHandle" ∧ (parseMethodDescriptor ce_shaded.1.desc).map (fun d => d.parameters.length) = some 2) := ⟨by decide +kernel, by decide +kernel, lw_a3 20 (by decide +kernel) rfl, lw_a1 14 (by decide +kernel) rfl, by decide +kernel, by decide +kernel, by decide +kernel⟩
theorem pk_ru_childOf_71 : mj_KS ru_childOf ce_shaded 71 2 := ⟨⟨p0_ce_shaded.1, p0_ce_shaded.2.1, p0_ce_shaded.2.2.1, p0_ce_shaded.2.2.2.1, p0_ce_shaded.2.2.2.2, by decide⟩, lw_a4 0 (by decide +kernel) rfl, lw_a3 19 (by decide +kernel) rfl⟩
theorem pi_ru_74 : Cond.constantLong RX9 74 (-1) ∈ lw_g := lw_a4 14 (by decide +kernel) rfl
theorem pk_ru_foretell_76 : mj_KS ru_foretell jd_fillL 76 2 := ⟨⟨p0_jd_fillL.1, p0_jd_fillL.2.1, p0_jd_fillL.2.2.1, p0_jd_fillL.2.2.2.1, p0_jd_fillL.2.2.2.2, by decide⟩, lw_a4 15 (by decide +kernel) rfl, lw_a4 16 (by decide +kernel) rfl⟩
theorem p0_ru_foretellStep : plainFor ru_foretellStep.1 = true ∧ ru_foretellStep.1 ≠ yL_law ∧ Cond.code ru_foretellStep.1 ru_foretellStep.2.1 ru_foretellStep.2.2.1 ru_foretellStep.2.2.2.1 ∈ lw_g ∧ Cond.initialized ru_foretellStep.1.cls ∈ lw_g ∧ (ru_foretellStep.1.cls ≠ "java/lang/invoke/MethodHandle" ∧ ru_foretellStep.1.cls ≠ "java/lang/invoke/VarHandle" ∧ (parseMethodDescriptor ru_foretellStep.1.desc).map (fun d => d.parameters.length) = some 2) := ⟨by decide +kernel, by decide +kernel, lw_a4 21 (by decide +kernel) rfl, lw_a1 15 (by decide +kernel) rfl, by decide +kernel, by decide +kernel, by decide +kernel⟩
theorem pk_ru_foretell_79 : mj_KV ru_foretell ru_foretellStep 79 8 2 := ⟨⟨p0_ru_foretellStep.1, p0_ru_foretellStep.2.1, p0_ru_foretellStep.2.2.1, p0_ru_foretellStep.2.2.2.1, p0_ru_foretellStep.2.2.2.2, by decide⟩, lw_a4 18 (by decide +kernel) rfl, lw_a4 20 (by decide +kernel) rfl, lw_a0 20 (by decide +kernel) rfl, _, _, rfl⟩
theorem pk_ru_foretellStep_76 : mj_KS ru_foretellStep jd_fillL 76 2 := ⟨⟨p0_jd_fillL.1, p0_jd_fillL.2.1, p0_jd_fillL.2.2.1, p0_jd_fillL.2.2.2.1, p0_jd_fillL.2.2.2.2, by decide⟩, lw_a4 15 (by decide +kernel) rfl, lw_a4 16 (by decide +kernel) rfl⟩
theorem pk_ru_foretellStep_58 : mj_KS ru_foretellStep ce_kindOf 58 1 := ⟨⟨p0_ce_kindOf.1, p0_ce_kindOf.2.1, p0_ce_kindOf.2.2.1, p0_ce_kindOf.2.2.2.1, p0_ce_kindOf.2.2.2.2, by decide⟩, lw_a3 233 (by decide +kernel) rfl, lw_a3 22 (by decide +kernel) rfl⟩
theorem p0_ru_sum : plainFor ru_sum.1 = true ∧ ru_sum.1 ≠ yL_law ∧ Cond.code ru_sum.1 ru_sum.2.1 ru_sum.2.2.1 ru_sum.2.2.2.1 ∈ lw_g ∧ Cond.initialized ru_sum.1.cls ∈ lw_g ∧ (ru_sum.1.cls ≠ "java/lang/invoke/MethodHandle" ∧ ru_sum.1.cls ≠ "java/lang/invoke/VarHandle" ∧ (parseMethodDescriptor ru_sum.1.desc).map (fun d => d.parameters.length) = some 2) := ⟨by decide +kernel, by decide +kernel, lw_a4 24 (by decide +kernel) rfl, lw_a1 15 (by decide +kernel) rfl, by decide +kernel, by decide +kernel, by decide +kernel⟩
theorem pk_ru_foretellStep_83 : mj_KS ru_foretellStep ru_sum 83 2 := ⟨⟨p0_ru_sum.1, p0_ru_sum.2.1, p0_ru_sum.2.2.1, p0_ru_sum.2.2.2.1, p0_ru_sum.2.2.2.2, by decide⟩, lw_a4 22 (by decide +kernel) rfl, lw_a4 23 (by decide +kernel) rfl⟩
theorem pi_ru_87 : Cond.constantLong RX9 87 (-2) ∈ lw_g := lw_a4 25 (by decide +kernel) rfl
theorem pi_ru_91 : Cond.constantLong RX9 91 (9223372036854775807) ∈ lw_g := lw_a4 26 (by decide +kernel) rfl
theorem pm_se_3 : Cond.methodLink RX10 3 objectInit ∈ lw_g := lw_a1 126 (by decide +kernel) rfl
theorem pf_se_11 : mj_F RX10 11 9 2 13 true (.array .int) := ⟨_, _, rfl, by decide, rfl, rfl, rfl, lw_a1 129 (by decide +kernel) rfl⟩
theorem pf_se_17 : mj_F RX10 17 9 3 13 true (.array .int) := ⟨_, _, rfl, by decide, rfl, rfl, rfl, lw_a1 130 (by decide +kernel) rfl⟩
theorem pf_se_20 : mj_F RX10 20 9 0 13 true (.object "TileOffice$Board") := ⟨_, _, rfl, by decide, rfl, rfl, rfl, lw_a1 127 (by decide +kernel) rfl⟩
theorem pf_se_24 : mj_F RX10 24 9 1 13 true (.object "TileOffice$Kinds") := ⟨_, _, rfl, by decide, rfl, rfl, rfl, lw_a1 128 (by decide +kernel) rfl⟩
theorem p0_fl_showNothing : plainFor fl_showNothing.1 = true ∧ fl_showNothing.1 ≠ yL_law ∧ Cond.code fl_showNothing.1 fl_showNothing.2.1 fl_showNothing.2.2.1 fl_showNothing.2.2.2.1 ∈ lw_g ∧ Cond.initialized fl_showNothing.1.cls ∈ lw_g ∧ (fl_showNothing.1.cls ≠ "java/lang/invoke/MethodHandle" ∧ fl_showNothing.1.cls ≠ "java/lang/invoke/VarHandle" ∧ (parseMethodDescriptor fl_showNothing.1.desc).map (fun d => d.parameters.length) = some 0) := ⟨by decide +kernel, by decide +kernel, lw_a4 167 (by decide +kernel) rfl, lw_a1 17 (by decide +kernel) rfl, by decide +kernel, by decide +kernel, by decide +kernel⟩
theorem pk_se_run_28 : mj_KV se_run fl_showNothing 28 3 0 := ⟨⟨p0_fl_showNothing.1, p0_fl_showNothing.2.1, p0_fl_showNothing.2.2.1, p0_fl_showNothing.2.2.2.1, p0_fl_showNothing.2.2.2.2, by decide⟩, lw_a4 164 (by decide +kernel) rfl, lw_a4 165 (by decide +kernel) rfl, lw_a4 166 (by decide +kernel) rfl, _, _, rfl⟩
theorem p0_bo_begin : plainFor bo_begin.1 = true ∧ bo_begin.1 ≠ yL_law ∧ Cond.code bo_begin.1 bo_begin.2.1 bo_begin.2.2.1 bo_begin.2.2.2.1 ∈ lw_g ∧ Cond.initialized bo_begin.1.cls ∈ lw_g ∧ (bo_begin.1.cls ≠ "java/lang/invoke/MethodHandle" ∧ bo_begin.1.cls ≠ "java/lang/invoke/VarHandle" ∧ (parseMethodDescriptor bo_begin.1.desc).map (fun d => d.parameters.length) = some 1) := ⟨by decide +kernel, by decide +kernel, lw_a4 171 (by decide +kernel) rfl, lw_a1 3 (by decide +kernel) rfl, by decide +kernel, by decide +kernel, by decide +kernel⟩
theorem pk_se_run_31 : mj_KV se_run bo_begin 31 1 1 := ⟨⟨p0_bo_begin.1, p0_bo_begin.2.1, p0_bo_begin.2.2.1, p0_bo_begin.2.2.2.1, p0_bo_begin.2.2.2.2, by decide⟩, lw_a4 168 (by decide +kernel) rfl, lw_a4 169 (by decide +kernel) rfl, lw_a4 170 (by decide +kernel) rfl, _, _, rfl⟩
theorem pf_se_37 : mj_F RX10 37 9 4 13 false .int := ⟨_, _, rfl, by decide, rfl, rfl, rfl, lw_a1 131 (by decide +kernel) rfl⟩
theorem pi_se_41 : Cond.constant RX10 41 (600000) ∈ lw_g := lw_a5 3 (by decide +kernel) rfl
theorem pf_se_42 : mj_F RX10 42 9 9 13 false .int := ⟨_, _, rfl, by decide, rfl, rfl, rfl, lw_a1 136 (by decide +kernel) rfl⟩
theorem pk_se_run_45 : mj_KS se_run jd_min 45 2 := ⟨⟨p0_jd_min.1, p0_jd_min.2.1, p0_jd_min.2.2.1, p0_jd_min.2.2.2.1, p0_jd_min.2.2.2.2, by decide⟩, lw_a5 4 (by decide +kernel) rfl, lw_a2 158 (by decide +kernel) rfl⟩
theorem pf_se_51 : mj_F RX10 51 9 5 13 false .int := ⟨_, _, rfl, by decide, rfl, rfl, rfl, lw_a1 132 (by decide +kernel) rfl⟩
theorem pf_se_54 : mj_F RX10 54 9 6 13 false .boolean := ⟨_, _, rfl, by decide, rfl, rfl, rfl, lw_a1 133 (by decide +kernel) rfl⟩
theorem pf_se_58 : mj_F RX10 58 9 7 13 false .int := ⟨_, _, rfl, by decide, rfl, rfl, rfl, lw_a1 134 (by decide +kernel) rfl⟩
theorem p0_se_leastCostOn : plainFor se_leastCostOn.1 = true ∧ se_leastCostOn.1 ≠ yL_law ∧ Cond.code se_leastCostOn.1 se_leastCostOn.2.1 se_leastCostOn.2.2.1 se_leastCostOn.2.2.2.1 ∈ lw_g ∧ Cond.initialized se_leastCostOn.1.cls ∈ lw_g ∧ (se_leastCostOn.1.cls ≠ "java/lang/invoke/MethodHandle" ∧ se_leastCostOn.1.cls ≠ "java/lang/invoke/VarHandle" ∧ (parseMethodDescriptor se_leastCostOn.1.desc).map (fun d => d.parameters.length) = some 1) := ⟨by decide +kernel, by decide +kernel, lw_a5 8 (by decide +kernel) rfl, lw_a1 5 (by decide +kernel) rfl, by decide +kernel, by decide +kernel, by decide +kernel⟩
theorem pk_se_run_61 : mj_KV se_run se_leastCostOn 61 9 1 := ⟨⟨p0_se_leastCostOn.1, p0_se_leastCostOn.2.1, p0_se_leastCostOn.2.2.1, p0_se_leastCostOn.2.2.2.1, p0_se_leastCostOn.2.2.2.2, by decide⟩, lw_a5 5 (by decide +kernel) rfl, lw_a5 7 (by decide +kernel) rfl, lw_a0 34 (by decide +kernel) rfl, _, _, rfl⟩
theorem pf_se_65 : mj_F RX10 65 9 8 13 false .int := ⟨_, _, rfl, by decide, rfl, rfl, rfl, lw_a1 135 (by decide +kernel) rfl⟩
theorem pf_se_68 : mj_F RX10 68 9 10 13 false .int := ⟨_, _, rfl, by decide, rfl, rfl, rfl, lw_a1 138 (by decide +kernel) rfl⟩
theorem pf_se_71 : mj_F RX10 71 9 11 13 false .int := ⟨_, _, rfl, by decide, rfl, rfl, rfl, lw_a1 140 (by decide +kernel) rfl⟩
theorem pf_se_74 : mj_F RX10 74 9 12 13 false .boolean := ⟨_, _, rfl, by decide, rfl, rfl, rfl, lw_a1 142 (by decide +kernel) rfl⟩
theorem p0_bo_givenOnesFit : plainFor bo_givenOnesFit.1 = true ∧ bo_givenOnesFit.1 ≠ yL_law ∧ Cond.code bo_givenOnesFit.1 bo_givenOnesFit.2.1 bo_givenOnesFit.2.2.1 bo_givenOnesFit.2.2.2.1 ∈ lw_g ∧ Cond.initialized bo_givenOnesFit.1.cls ∈ lw_g ∧ (bo_givenOnesFit.1.cls ≠ "java/lang/invoke/MethodHandle" ∧ bo_givenOnesFit.1.cls ≠ "java/lang/invoke/VarHandle" ∧ (parseMethodDescriptor bo_givenOnesFit.1.desc).map (fun d => d.parameters.length) = some 0) := ⟨by decide +kernel, by decide +kernel, lw_a5 18 (by decide +kernel) rfl, lw_a1 3 (by decide +kernel) rfl, by decide +kernel, by decide +kernel, by decide +kernel⟩
theorem pk_se_run_77 : mj_KV se_run bo_givenOnesFit 77 1 0 := ⟨⟨p0_bo_givenOnesFit.1, p0_bo_givenOnesFit.2.1, p0_bo_givenOnesFit.2.2.1, p0_bo_givenOnesFit.2.2.2.1, p0_bo_givenOnesFit.2.2.2.2, by decide⟩, lw_a5 15 (by decide +kernel) rfl, lw_a5 16 (by decide +kernel) rfl, lw_a5 17 (by decide +kernel) rfl, _, _, rfl⟩
theorem pf_se_81 : mj_F RX10 81 1 1 11 false .int := ⟨_, _, rfl, by decide, rfl, rfl, rfl, lw_a1 88 (by decide +kernel) rfl⟩
theorem p0_se_noteFill : plainFor se_noteFill.1 = true ∧ se_noteFill.1 ≠ yL_law ∧ Cond.code se_noteFill.1 se_noteFill.2.1 se_noteFill.2.2.1 se_noteFill.2.2.2.1 ∈ lw_g ∧ Cond.initialized se_noteFill.1.cls ∈ lw_g ∧ (se_noteFill.1.cls ≠ "java/lang/invoke/MethodHandle" ∧ se_noteFill.1.cls ≠ "java/lang/invoke/VarHandle" ∧ (parseMethodDescriptor se_noteFill.1.desc).map (fun d => d.parameters.length) = some 1) := ⟨by decide +kernel, by decide +kernel, lw_a5 22 (by decide +kernel) rfl, lw_a1 5 (by decide +kernel) rfl, by decide +kernel, by decide +kernel, by decide +kernel⟩
theorem pk_se_run_84 : mj_KV se_run se_noteFill 84 9 1 := ⟨⟨p0_se_noteFill.1, p0_se_noteFill.2.1, p0_se_noteFill.2.2.1, p0_se_noteFill.2.2.2.1, p0_se_noteFill.2.2.2.2, by decide⟩, lw_a5 19 (by decide +kernel) rfl, lw_a5 21 (by decide +kernel) rfl, lw_a0 35 (by decide +kernel) rfl, _, _, rfl⟩
theorem p0_se_explore : plainFor se_explore.1 = true ∧ se_explore.1 ≠ yL_law ∧ Cond.code se_explore.1 se_explore.2.1 se_explore.2.2.1 se_explore.2.2.2.1 ∈ lw_g ∧ Cond.initialized se_explore.1.cls ∈ lw_g ∧ (se_explore.1.cls ≠ "java/lang/invoke/MethodHandle" ∧ se_explore.1.cls ≠ "java/lang/invoke/VarHandle" ∧ (parseMethodDescriptor se_explore.1.desc).map (fun d => d.parameters.length) = some 2) := ⟨by decide +kernel, by decide +kernel, lw_a5 34 (by decide +kernel) rfl, lw_a1 5 (by decide +kernel) rfl, by decide +kernel, by decide +kernel, by decide +kernel⟩
theorem pk_se_run_87 : mj_KV se_run se_explore 87 9 2 := ⟨⟨p0_se_explore.1, p0_se_explore.2.1, p0_se_explore.2.2.1, p0_se_explore.2.2.2.1, p0_se_explore.2.2.2.2, by decide⟩, lw_a5 31 (by decide +kernel) rfl, lw_a5 33 (by decide +kernel) rfl, lw_a0 36 (by decide +kernel) rfl, _, _, rfl⟩
theorem pf_se_91 : mj_F RX10 91 5 0 6 false .int := ⟨_, _, rfl, by decide, rfl, rfl, rfl, lw_a1 34 (by decide +kernel) rfl⟩
theorem pk_se_leastCostOn_96 : mj_KV se_leastCostOn fl_stockOf 96 3 1 := ⟨⟨p0_fl_stockOf.1, p0_fl_stockOf.2.1, p0_fl_stockOf.2.2.1, p0_fl_stockOf.2.2.2.1, p0_fl_stockOf.2.2.2.2, by decide⟩, lw_a5 9 (by decide +kernel) rfl, lw_a4 178 (by decide +kernel) rfl, lw_a4 179 (by decide +kernel) rfl, _, _, rfl⟩
theorem p0_ki_costOf : plainFor ki_costOf.1 = true ∧ ki_costOf.1 ≠ yL_law ∧ Cond.code ki_costOf.1 ki_costOf.2.1 ki_costOf.2.2.1 ki_costOf.2.2.2.1 ∈ lw_g ∧ Cond.initialized ki_costOf.1.cls ∈ lw_g ∧ (ki_costOf.1.cls ≠ "java/lang/invoke/MethodHandle" ∧ ki_costOf.1.cls ≠ "java/lang/invoke/VarHandle" ∧ (parseMethodDescriptor ki_costOf.1.desc).map (fun d => d.parameters.length) = some 1) := ⟨by decide +kernel, by decide +kernel, lw_a5 13 (by decide +kernel) rfl, lw_a1 2 (by decide +kernel) rfl, by decide +kernel, by decide +kernel, by decide +kernel⟩
theorem pk_se_leastCostOn_100 : mj_KV se_leastCostOn ki_costOf 100 5 1 := ⟨⟨p0_ki_costOf.1, p0_ki_costOf.2.1, p0_ki_costOf.2.2.1, p0_ki_costOf.2.2.2.1, p0_ki_costOf.2.2.2.2, by decide⟩, lw_a5 10 (by decide +kernel) rfl, lw_a5 11 (by decide +kernel) rfl, lw_a5 12 (by decide +kernel) rfl, _, _, rfl⟩
theorem pk_se_leastCostOn_103 : mj_KS se_leastCostOn jd_max 103 2 := ⟨⟨p0_jd_max.1, p0_jd_max.2.1, p0_jd_max.2.2.1, p0_jd_max.2.2.2.1, p0_jd_max.2.2.2.2, by decide⟩, lw_a5 14 (by decide +kernel) rfl, lw_a1 222 (by decide +kernel) rfl⟩
theorem p0_se_openDepth : plainFor se_openDepth.1 = true ∧ se_openDepth.1 ≠ yL_law ∧ Cond.code se_openDepth.1 se_openDepth.2.1 se_openDepth.2.2.1 se_openDepth.2.2.2.1 ∈ lw_g ∧ Cond.initialized se_openDepth.1.cls ∈ lw_g ∧ (se_openDepth.1.cls ≠ "java/lang/invoke/MethodHandle" ∧ se_openDepth.1.cls ≠ "java/lang/invoke/VarHandle" ∧ (parseMethodDescriptor se_openDepth.1.desc).map (fun d => d.parameters.length) = some 1) := ⟨by decide +kernel, by decide +kernel, lw_a5 38 (by decide +kernel) rfl, lw_a1 5 (by decide +kernel) rfl, by decide +kernel, by decide +kernel, by decide +kernel⟩
theorem pk_se_explore_106 : mj_KV se_explore se_openDepth 106 9 1 := ⟨⟨p0_se_openDepth.1, p0_se_openDepth.2.1, p0_se_openDepth.2.2.1, p0_se_openDepth.2.2.2.1, p0_se_openDepth.2.2.2.2, by decide⟩, lw_a5 35 (by decide +kernel) rfl, lw_a5 37 (by decide +kernel) rfl, lw_a0 37 (by decide +kernel) rfl, _, _, rfl⟩
theorem pi_se_110 : Cond.constant RX10 110 (1000000) ∈ lw_g := lw_a5 43 (by decide +kernel) rfl
theorem p0_se_nextTry : plainFor se_nextTry.1 = true ∧ se_nextTry.1 ≠ yL_law ∧ Cond.code se_nextTry.1 se_nextTry.2.1 se_nextTry.2.2.1 se_nextTry.2.2.2.1 ∈ lw_g ∧ Cond.initialized se_nextTry.1.cls ∈ lw_g ∧ (se_nextTry.1.cls ≠ "java/lang/invoke/MethodHandle" ∧ se_nextTry.1.cls ≠ "java/lang/invoke/VarHandle" ∧ (parseMethodDescriptor se_nextTry.1.desc).map (fun d => d.parameters.length) = some 0) := ⟨by decide +kernel, by decide +kernel, lw_a5 47 (by decide +kernel) rfl, lw_a1 5 (by decide +kernel) rfl, by decide +kernel, by decide +kernel, by decide +kernel⟩
theorem pk_se_explore_111 : mj_KV se_explore se_nextTry 111 9 0 := ⟨⟨p0_se_nextTry.1, p0_se_nextTry.2.1, p0_se_nextTry.2.2.1, p0_se_nextTry.2.2.2.1, p0_se_nextTry.2.2.2.2, by decide⟩, lw_a5 44 (by decide +kernel) rfl, lw_a5 46 (by decide +kernel) rfl, lw_a0 38 (by decide +kernel) rfl, _, _, rfl⟩
theorem p0_se_openAgain : plainFor se_openAgain.1 = true ∧ se_openAgain.1 ≠ yL_law ∧ Cond.code se_openAgain.1 se_openAgain.2.1 se_openAgain.2.2.1 se_openAgain.2.2.2.1 ∈ lw_g ∧ Cond.initialized se_openAgain.1.cls ∈ lw_g ∧ (se_openAgain.1.cls ≠ "java/lang/invoke/MethodHandle" ∧ se_openAgain.1.cls ≠ "java/lang/invoke/VarHandle" ∧ (parseMethodDescriptor se_openAgain.1.desc).map (fun d => d.parameters.length) = some 1) := ⟨by decide +kernel, by decide +kernel, lw_a5 79 (by decide +kernel) rfl, lw_a1 5 (by decide +kernel) rfl, by decide +kernel, by decide +kernel, by decide +kernel⟩
theorem pk_se_explore_115 : mj_KV se_explore se_openAgain 115 9 1 := ⟨⟨p0_se_openAgain.1, p0_se_openAgain.2.1, p0_se_openAgain.2.2.1, p0_se_openAgain.2.2.2.1, p0_se_openAgain.2.2.2.2, by decide⟩, lw_a5 76 (by decide +kernel) rfl, lw_a5 78 (by decide +kernel) rfl, lw_a0 41 (by decide +kernel) rfl, _, _, rfl⟩
theorem p0_se_noteTry : plainFor se_noteTry.1 = true ∧ se_noteTry.1 ≠ yL_law ∧ Cond.code se_noteTry.1 se_noteTry.2.1 se_noteTry.2.2.1 se_noteTry.2.2.2.1 ∈ lw_g ∧ Cond.initialized se_noteTry.1.cls ∈ lw_g ∧ (se_noteTry.1.cls ≠ "java/lang/invoke/MethodHandle" ∧ se_noteTry.1.cls ≠ "java/lang/invoke/VarHandle" ∧ (parseMethodDescriptor se_noteTry.1.desc).map (fun d => d.parameters.length) = some 1) := ⟨by decide +kernel, by decide +kernel, lw_a5 100 (by decide +kernel) rfl, lw_a1 5 (by decide +kernel) rfl, by decide +kernel, by decide +kernel, by decide +kernel⟩
theorem pk_se_explore_118 : mj_KV se_explore se_noteTry 118 9 1 := ⟨⟨p0_se_noteTry.1, p0_se_noteTry.2.1, p0_se_noteTry.2.2.1, p0_se_noteTry.2.2.2.1, p0_se_noteTry.2.2.2.2, by decide⟩, lw_a5 97 (by decide +kernel) rfl, lw_a5 99 (by decide +kernel) rfl, lw_a0 45 (by decide +kernel) rfl, _, _, rfl⟩
theorem pk_se_explore_121 : mj_KV se_explore bo_lay 121 1 2 := ⟨⟨p0_bo_lay.1, p0_bo_lay.2.1, p0_bo_lay.2.2.1, p0_bo_lay.2.2.2.1, p0_bo_lay.2.2.2.2, by decide⟩, lw_a5 101 (by decide +kernel) rfl, lw_a5 102 (by decide +kernel) rfl, lw_a5 103 (by decide +kernel) rfl, _, _, rfl⟩
theorem pk_se_explore_84 : mj_KV se_explore se_noteFill 84 9 1 := ⟨⟨p0_se_noteFill.1, p0_se_noteFill.2.1, p0_se_noteFill.2.2.1, p0_se_noteFill.2.2.2.1, p0_se_noteFill.2.2.2.2, by decide⟩, lw_a5 19 (by decide +kernel) rfl, lw_a5 21 (by decide +kernel) rfl, lw_a0 35 (by decide +kernel) rfl, _, _, rfl⟩
theorem p0_bo_scarcestPlace : plainFor bo_scarcestPlace.1 = true ∧ bo_scarcestPlace.1 ≠ yL_law ∧ Cond.code bo_scarcestPlace.1 bo_scarcestPlace.2.1 bo_scarcestPlace.2.2.1 bo_scarcestPlace.2.2.2.1 ∈ lw_g ∧ Cond.initialized bo_scarcestPlace.1.cls ∈ lw_g ∧ (bo_scarcestPlace.1.cls ≠ "java/lang/invoke/MethodHandle" ∧ bo_scarcestPlace.1.cls ≠ "java/lang/invoke/VarHandle" ∧ (parseMethodDescriptor bo_scarcestPlace.1.desc).map (fun d => d.parameters.length) = some 0) := ⟨by decide +kernel, by decide +kernel, lw_a5 42 (by decide +kernel) rfl, lw_a1 3 (by decide +kernel) rfl, by decide +kernel, by decide +kernel, by decide +kernel⟩
theorem pk_se_openDepth_125 : mj_KV se_openDepth bo_scarcestPlace 125 1 0 := ⟨⟨p0_bo_scarcestPlace.1, p0_bo_scarcestPlace.2.1, p0_bo_scarcestPlace.2.2.1, p0_bo_scarcestPlace.2.2.2.1, p0_bo_scarcestPlace.2.2.2.2, by decide⟩, lw_a5 39 (by decide +kernel) rfl, lw_a5 40 (by decide +kernel) rfl, lw_a5 41 (by decide +kernel) rfl, _, _, rfl⟩
theorem p0_bo_lift : plainFor bo_lift.1 = true ∧ bo_lift.1 ≠ yL_law ∧ Cond.code bo_lift.1 bo_lift.2.1 bo_lift.2.2.1 bo_lift.2.2.2.1 ∈ lw_g ∧ Cond.initialized bo_lift.1.cls ∈ lw_g ∧ (bo_lift.1.cls ≠ "java/lang/invoke/MethodHandle" ∧ bo_lift.1.cls ≠ "java/lang/invoke/VarHandle" ∧ (parseMethodDescriptor bo_lift.1.desc).map (fun d => d.parameters.length) = some 2) := ⟨by decide +kernel, by decide +kernel, lw_a5 83 (by decide +kernel) rfl, lw_a1 3 (by decide +kernel) rfl, by decide +kernel, by decide +kernel, by decide +kernel⟩
theorem pk_se_openAgain_128 : mj_KV se_openAgain bo_lift 128 1 2 := ⟨⟨p0_bo_lift.1, p0_bo_lift.2.1, p0_bo_lift.2.2.1, p0_bo_lift.2.2.2.1, p0_bo_lift.2.2.2.2, by decide⟩, lw_a5 80 (by decide +kernel) rfl, lw_a5 81 (by decide +kernel) rfl, lw_a5 82 (by decide +kernel) rfl, _, _, rfl⟩
theorem p0_se_costOf : plainFor se_costOf.1 = true ∧ se_costOf.1 ≠ yL_law ∧ Cond.code se_costOf.1 se_costOf.2.1 se_costOf.2.2.1 se_costOf.2.2.2.1 ∈ lw_g ∧ Cond.initialized se_costOf.1.cls ∈ lw_g ∧ (se_costOf.1.cls ≠ "java/lang/invoke/MethodHandle" ∧ se_costOf.1.cls ≠ "java/lang/invoke/VarHandle" ∧ (parseMethodDescriptor se_costOf.1.desc).map (fun d => d.parameters.length) = some 1) := ⟨by decide +kernel, by decide +kernel, lw_a5 67 (by decide +kernel) rfl, lw_a1 5 (by decide +kernel) rfl, by decide +kernel, by decide +kernel, by decide +kernel⟩
theorem pk_se_openAgain_131 : mj_KV se_openAgain se_costOf 131 9 1 := ⟨⟨p0_se_costOf.1, p0_se_costOf.2.1, p0_se_costOf.2.2.1, p0_se_costOf.2.2.2.1, p0_se_costOf.2.2.2.2, by decide⟩, lw_a5 64 (by decide +kernel) rfl, lw_a5 66 (by decide +kernel) rfl, lw_a0 40 (by decide +kernel) rfl, _, _, rfl⟩
theorem pf_se_132 : mj_F RX10 132 1 0 11 true (.object "TileOffice$Choices") := ⟨_, _, rfl, by decide, rfl, rfl, rfl, lw_a1 86 (by decide +kernel) rfl⟩
theorem pf_se_136 : mj_F RX10 136 2 1 4 false .int := ⟨_, _, rfl, by decide, rfl, rfl, rfl, lw_a1 68 (by decide +kernel) rfl⟩
theorem pk_se_nextTry_141 : mj_KV se_nextTry bo_fittingAfter 141 1 2 := ⟨⟨p0_bo_fittingAfter.1, p0_bo_fittingAfter.2.1, p0_bo_fittingAfter.2.2.1, p0_bo_fittingAfter.2.2.2.1, p0_bo_fittingAfter.2.2.2.2, by decide⟩, lw_a5 48 (by decide +kernel) rfl, lw_a5 49 (by decide +kernel) rfl, lw_a5 50 (by decide +kernel) rfl, _, _, rfl⟩
theorem p0_se_isPassedOver : plainFor se_isPassedOver.1 = true ∧ se_isPassedOver.1 ≠ yL_law ∧ Cond.code se_isPassedOver.1 se_isPassedOver.2.1 se_isPassedOver.2.2.1 se_isPassedOver.2.2.2.1 ∈ lw_g ∧ Cond.initialized se_isPassedOver.1.cls ∈ lw_g ∧ (se_isPassedOver.1.cls ≠ "java/lang/invoke/MethodHandle" ∧ se_isPassedOver.1.cls ≠ "java/lang/invoke/VarHandle" ∧ (parseMethodDescriptor se_isPassedOver.1.desc).map (fun d => d.parameters.length) = some 1) := ⟨by decide +kernel, by decide +kernel, lw_a5 63 (by decide +kernel) rfl, lw_a1 5 (by decide +kernel) rfl, by decide +kernel, by decide +kernel, by decide +kernel⟩
theorem pk_se_nextTry_144 : mj_KV se_nextTry se_isPassedOver 144 9 1 := ⟨⟨p0_se_isPassedOver.1, p0_se_isPassedOver.2.1, p0_se_isPassedOver.2.2.1, p0_se_isPassedOver.2.2.2.1, p0_se_isPassedOver.2.2.2.2, by decide⟩, lw_a5 60 (by decide +kernel) rfl, lw_a5 62 (by decide +kernel) rfl, lw_a0 39 (by decide +kernel) rfl, _, _, rfl⟩
theorem pk_se_isPassedOver_131 : mj_KV se_isPassedOver se_costOf 131 9 1 := ⟨⟨p0_se_costOf.1, p0_se_costOf.2.1, p0_se_costOf.2.2.1, p0_se_costOf.2.2.2.1, p0_se_costOf.2.2.2.2, by decide⟩, lw_a5 64 (by decide +kernel) rfl, lw_a5 66 (by decide +kernel) rfl, lw_a0 40 (by decide +kernel) rfl, _, _, rfl⟩
theorem pk_se_noteTry_131 : mj_KV se_noteTry se_costOf 131 9 1 := ⟨⟨p0_se_costOf.1, p0_se_costOf.2.1, p0_se_costOf.2.2.1, p0_se_costOf.2.2.2.1, p0_se_costOf.2.2.2.2, by decide⟩, lw_a5 64 (by decide +kernel) rfl, lw_a5 66 (by decide +kernel) rfl, lw_a0 40 (by decide +kernel) rfl, _, _, rfl⟩
theorem pk_se_costOf_148 : mj_KV se_costOf ch_kindOf 148 2 1 := ⟨⟨p0_ch_kindOf.1, p0_ch_kindOf.2.1, p0_ch_kindOf.2.2.1, p0_ch_kindOf.2.2.2.1, p0_ch_kindOf.2.2.2.2, by decide⟩, lw_a5 68 (by decide +kernel) rfl, lw_a5 69 (by decide +kernel) rfl, lw_a5 70 (by decide +kernel) rfl, _, _, rfl⟩
theorem pk_se_costOf_100 : mj_KV se_costOf ki_costOf 100 5 1 := ⟨⟨p0_ki_costOf.1, p0_ki_costOf.2.1, p0_ki_costOf.2.2.1, p0_ki_costOf.2.2.2.1, p0_ki_costOf.2.2.2.2, by decide⟩, lw_a5 10 (by decide +kernel) rfl, lw_a5 11 (by decide +kernel) rfl, lw_a5 12 (by decide +kernel) rfl, _, _, rfl⟩
theorem p0_bo_showOn : plainFor bo_showOn.1 = true ∧ bo_showOn.1 ≠ yL_law ∧ Cond.code bo_showOn.1 bo_showOn.2.1 bo_showOn.2.2.1 bo_showOn.2.2.2.1 ∈ lw_g ∧ Cond.initialized bo_showOn.1.cls ∈ lw_g ∧ (bo_showOn.1.cls ≠ "java/lang/invoke/MethodHandle" ∧ bo_showOn.1.cls ≠ "java/lang/invoke/VarHandle" ∧ (parseMethodDescriptor bo_showOn.1.desc).map (fun d => d.parameters.length) = some 1) := ⟨by decide +kernel, by decide +kernel, lw_a5 26 (by decide +kernel) rfl, lw_a1 3 (by decide +kernel) rfl, by decide +kernel, by decide +kernel, by decide +kernel⟩
theorem pk_se_noteFill_151 : mj_KV se_noteFill bo_showOn 151 1 1 := ⟨⟨p0_bo_showOn.1, p0_bo_showOn.2.1, p0_bo_showOn.2.2.1, p0_bo_showOn.2.2.2.1, p0_bo_showOn.2.2.2.2, by decide⟩, lw_a5 23 (by decide +kernel) rfl, lw_a5 24 (by decide +kernel) rfl, lw_a5 25 (by decide +kernel) rfl, _, _, rfl⟩
theorem pm_to_1 : Cond.methodLink RX11 1 objectInit ∈ lw_g := lw_a1 24 (by decide +kernel) rfl
theorem pc_to_7 : Cond.classLink RX11 7 RX6 ∈ lw_g := lw_a1 27 (by decide +kernel) rfl
theorem p0_ki_init : plainFor ki_init.1 = true ∧ ki_init.1 ≠ yL_law ∧ Cond.code ki_init.1 ki_init.2.1 ki_init.2.2.1 ki_init.2.2.2.1 ∈ lw_g ∧ Cond.initialized ki_init.1.cls ∈ lw_g ∧ (ki_init.1.cls ≠ "java/lang/invoke/MethodHandle" ∧ ki_init.1.cls ≠ "java/lang/invoke/VarHandle" ∧ (parseMethodDescriptor ki_init.1.desc).map (fun d => d.parameters.length) = some 0) := ⟨by decide +kernel, by decide +kernel, lw_a1 31 (by decide +kernel) rfl, lw_a1 2 (by decide +kernel) rfl, by decide +kernel, by decide +kernel, by decide +kernel⟩
theorem pk_to_init_9 : mj_KN to_init ki_init 9 0 := ⟨⟨p0_ki_init.1, p0_ki_init.2.1, p0_ki_init.2.2.1, p0_ki_init.2.2.2.1, p0_ki_init.2.2.2.2, by decide⟩, fun s h => h.1, lw_a1 30 (by decide +kernel) rfl, rfl, rfl⟩
theorem pc_to_10 : Cond.classLink RX11 10 RX1 ∈ lw_g := lw_a1 58 (by decide +kernel) rfl
theorem pc_to_12 : Cond.classLink RX11 12 RX3 ∈ lw_g := lw_a1 60 (by decide +kernel) rfl
theorem p0_ch_init : plainFor ch_init.1 = true ∧ ch_init.1 ≠ yL_law ∧ Cond.code ch_init.1 ch_init.2.1 ch_init.2.2.1 ch_init.2.2.2.1 ∈ lw_g ∧ Cond.initialized ch_init.1.cls ∈ lw_g ∧ (ch_init.1.cls ≠ "java/lang/invoke/MethodHandle" ∧ ch_init.1.cls ≠ "java/lang/invoke/VarHandle" ∧ (parseMethodDescriptor ch_init.1.desc).map (fun d => d.parameters.length) = some 1) := ⟨by decide +kernel, by decide +kernel, lw_a1 64 (by decide +kernel) rfl, lw_a1 4 (by decide +kernel) rfl, by decide +kernel, by decide +kernel, by decide +kernel⟩
theorem pk_to_init_14 : mj_KI to_init ch_init 14 1 := ⟨⟨p0_ch_init.1, p0_ch_init.2.1, p0_ch_init.2.2.1, p0_ch_init.2.2.2.1, p0_ch_init.2.2.2.2, by decide⟩, lw_a1 62 (by decide +kernel) rfl, lw_a1 63 (by decide +kernel) rfl, rfl, rfl⟩
theorem p0_bo_init : plainFor bo_init.1 = true ∧ bo_init.1 ≠ yL_law ∧ Cond.code bo_init.1 bo_init.2.1 bo_init.2.2.1 bo_init.2.2.2.1 ∈ lw_g ∧ Cond.initialized bo_init.1.cls ∈ lw_g ∧ (bo_init.1.cls ≠ "java/lang/invoke/MethodHandle" ∧ bo_init.1.cls ≠ "java/lang/invoke/VarHandle" ∧ (parseMethodDescriptor bo_init.1.desc).map (fun d => d.parameters.length) = some 1) := ⟨by decide +kernel, by decide +kernel, lw_a1 83 (by decide +kernel) rfl, lw_a1 3 (by decide +kernel) rfl, by decide +kernel, by decide +kernel, by decide +kernel⟩
theorem pk_to_init_17 : mj_KI to_init bo_init 17 1 := ⟨⟨p0_bo_init.1, p0_bo_init.2.1, p0_bo_init.2.2.1, p0_bo_init.2.2.2.1, p0_bo_init.2.2.2.2, by decide⟩, lw_a1 81 (by decide +kernel) rfl, lw_a1 82 (by decide +kernel) rfl, rfl, rfl⟩
theorem pf_to_20 : mj_F RX11 20 10 0 15 true (.object "TileOffice$Kinds") := ⟨_, _, rfl, by decide, rfl, rfl, rfl, lw_a2 4 (by decide +kernel) rfl⟩
theorem pf_to_26 : mj_F RX11 26 10 13 15 true (.object "TileOffice$Board") := ⟨_, _, rfl, by decide, rfl, rfl, rfl, lw_a2 17 (by decide +kernel) rfl⟩
theorem pc_to_30 : Cond.classLink RX11 30 RX10 ∈ lw_g := lw_a1 121 (by decide +kernel) rfl
theorem p0_se_init : plainFor se_init.1 = true ∧ se_init.1 ≠ yL_law ∧ Cond.code se_init.1 se_init.2.1 se_init.2.2.1 se_init.2.2.2.1 ∈ lw_g ∧ Cond.initialized se_init.1.cls ∈ lw_g ∧ (se_init.1.cls ≠ "java/lang/invoke/MethodHandle" ∧ se_init.1.cls ≠ "java/lang/invoke/VarHandle" ∧ (parseMethodDescriptor se_init.1.desc).map (fun d => d.parameters.length) = some 2) := ⟨by decide +kernel, by decide +kernel, lw_a1 125 (by decide +kernel) rfl, lw_a1 5 (by decide +kernel) rfl, by decide +kernel, by decide +kernel, by decide +kernel⟩
theorem pk_to_init_32 : mj_KI to_init se_init 32 2 := ⟨⟨p0_se_init.1, p0_se_init.2.1, p0_se_init.2.2.1, p0_se_init.2.2.2.1, p0_se_init.2.2.2.2, by decide⟩, lw_a1 123 (by decide +kernel) rfl, lw_a1 124 (by decide +kernel) rfl, rfl, rfl⟩
theorem pf_to_35 : mj_F RX11 35 10 14 15 true (.object "TileOffice$Search") := ⟨_, _, rfl, by decide, rfl, rfl, rfl, lw_a2 18 (by decide +kernel) rfl⟩
theorem pc_to_39 : Cond.classLink RX11 39 RX8 ∈ lw_g := lw_a1 171 (by decide +kernel) rfl
theorem p0_rs_init : plainFor rs_init.1 = true ∧ rs_init.1 ≠ yL_law ∧ Cond.code rs_init.1 rs_init.2.1 rs_init.2.2.1 rs_init.2.2.2.1 ∈ lw_g ∧ Cond.initialized rs_init.1.cls ∈ lw_g ∧ (rs_init.1.cls ≠ "java/lang/invoke/MethodHandle" ∧ rs_init.1.cls ≠ "java/lang/invoke/VarHandle" ∧ (parseMethodDescriptor rs_init.1.desc).map (fun d => d.parameters.length) = some 0) := ⟨by decide +kernel, by decide +kernel, lw_a1 175 (by decide +kernel) rfl, lw_a1 6 (by decide +kernel) rfl, by decide +kernel, by decide +kernel, by decide +kernel⟩
theorem pk_to_init_41 : mj_KN to_init rs_init 41 0 := ⟨⟨p0_rs_init.1, p0_rs_init.2.1, p0_rs_init.2.2.1, p0_rs_init.2.2.2.1, p0_rs_init.2.2.2.2, by decide⟩, fun s h => h.2.1, lw_a1 174 (by decide +kernel) rfl, rfl, rfl⟩
theorem pf_to_42 : mj_F RX11 42 10 1 15 true (.object "TileOffice$RowStore") := ⟨_, _, rfl, by decide, rfl, rfl, rfl, lw_a2 5 (by decide +kernel) rfl⟩
theorem pc_to_46 : Cond.classLink RX11 46 RX7 ∈ lw_g := lw_a1 190 (by decide +kernel) rfl
theorem pf_to_48 : mj_F RX11 48 10 2 15 true (.array (.object "TileOffice$Pattern")) := ⟨_, _, rfl, by decide, rfl, rfl, rfl, lw_a2 6 (by decide +kernel) rfl⟩
theorem pc_to_52 : Cond.classLink RX11 52 RX5 ∈ lw_g := lw_a1 192 (by decide +kernel) rfl
theorem p0_hi_init : plainFor hi_init.1 = true ∧ hi_init.1 ≠ yL_law ∧ Cond.code hi_init.1 hi_init.2.1 hi_init.2.2.1 hi_init.2.2.2.1 ∈ lw_g ∧ Cond.initialized hi_init.1.cls ∈ lw_g ∧ (hi_init.1.cls ≠ "java/lang/invoke/MethodHandle" ∧ hi_init.1.cls ≠ "java/lang/invoke/VarHandle" ∧ (parseMethodDescriptor hi_init.1.desc).map (fun d => d.parameters.length) = some 0) := ⟨by decide +kernel, by decide +kernel, lw_a1 196 (by decide +kernel) rfl, lw_a1 7 (by decide +kernel) rfl, by decide +kernel, by decide +kernel, by decide +kernel⟩
theorem pk_to_init_54 : mj_KN to_init hi_init 54 0 := ⟨⟨p0_hi_init.1, p0_hi_init.2.1, p0_hi_init.2.2.1, p0_hi_init.2.2.2.1, p0_hi_init.2.2.2.2, by decide⟩, fun s h => h.2.2.1, lw_a1 195 (by decide +kernel) rfl, rfl, rfl⟩
theorem pf_to_55 : mj_F RX11 55 10 4 15 true (.object "TileOffice$History") := ⟨_, _, rfl, by decide, rfl, rfl, rfl, lw_a2 8 (by decide +kernel) rfl⟩
theorem pc_to_59 : Cond.classLink RX11 59 RX0 ∈ lw_g := lw_a1 215 (by decide +kernel) rfl
theorem p0_bl_init : plainFor bl_init.1 = true ∧ bl_init.1 ≠ yL_law ∧ Cond.code bl_init.1 bl_init.2.1 bl_init.2.2.1 bl_init.2.2.2.1 ∈ lw_g ∧ Cond.initialized bl_init.1.cls ∈ lw_g ∧ (bl_init.1.cls ≠ "java/lang/invoke/MethodHandle" ∧ bl_init.1.cls ≠ "java/lang/invoke/VarHandle" ∧ (parseMethodDescriptor bl_init.1.desc).map (fun d => d.parameters.length) = some 1) := ⟨by decide +kernel, by decide +kernel, lw_a1 219 (by decide +kernel) rfl, lw_a1 8 (by decide +kernel) rfl, by decide +kernel, by decide +kernel, by decide +kernel⟩
theorem pk_to_init_61 : mj_KI to_init bl_init 61 1 := ⟨⟨p0_bl_init.1, p0_bl_init.2.1, p0_bl_init.2.2.1, p0_bl_init.2.2.2.1, p0_bl_init.2.2.2.2, by decide⟩, lw_a1 217 (by decide +kernel) rfl, lw_a1 218 (by decide +kernel) rfl, rfl, rfl⟩
theorem pf_to_64 : mj_F RX11 64 10 5 15 true (.object "TileOffice$Block") := ⟨_, _, rfl, by decide, rfl, rfl, rfl, lw_a2 9 (by decide +kernel) rfl⟩
theorem pf_to_68 : mj_F RX11 68 10 6 15 true (.object "TileOffice$Block") := ⟨_, _, rfl, by decide, rfl, rfl, rfl, lw_a2 10 (by decide +kernel) rfl⟩
theorem pf_to_71 : mj_F RX11 71 10 7 15 true (.object "TileOffice$Block") := ⟨_, _, rfl, by decide, rfl, rfl, rfl, lw_a2 11 (by decide +kernel) rfl⟩
theorem pf_to_74 : mj_F RX11 74 10 8 15 true (.array .int) := ⟨_, _, rfl, by decide, rfl, rfl, rfl, lw_a2 12 (by decide +kernel) rfl⟩
theorem pc_to_78 : Cond.classLink RX11 78 RX9 ∈ lw_g := lw_a2 0 (by decide +kernel) rfl
theorem pf_to_80 : mj_F RX11 80 10 9 15 true (.array (.object "TileOffice$Rule")) := ⟨_, _, rfl, by decide, rfl, rfl, rfl, lw_a2 13 (by decide +kernel) rfl⟩
theorem pc_to_84 : Cond.classLink RX11 84 RX4 ∈ lw_g := lw_a2 2 (by decide +kernel) rfl
theorem pf_to_86 : mj_F RX11 86 10 11 15 true (.array (.object "TileOffice$Floor")) := ⟨_, _, rfl, by decide, rfl, rfl, rfl, lw_a2 15 (by decide +kernel) rfl⟩
theorem p0_ki_lettersOf : plainFor ki_lettersOf.1 = true ∧ ki_lettersOf.1 ≠ yL_law ∧ Cond.code ki_lettersOf.1 ki_lettersOf.2.1 ki_lettersOf.2.2.1 ki_lettersOf.2.2.2.1 ∈ lw_g ∧ Cond.initialized ki_lettersOf.1.cls ∈ lw_g ∧ (ki_lettersOf.1.cls ≠ "java/lang/invoke/MethodHandle" ∧ ki_lettersOf.1.cls ≠ "java/lang/invoke/VarHandle" ∧ (parseMethodDescriptor ki_lettersOf.1.desc).map (fun d => d.parameters.length) = some 1) := ⟨by decide +kernel, by decide +kernel, lw_a2 56 (by decide +kernel) rfl, lw_a1 2 (by decide +kernel) rfl, by decide +kernel, by decide +kernel, by decide +kernel⟩
theorem pk_to_kind_90 : mj_KS to_kind ki_lettersOf 90 1 := ⟨⟨p0_ki_lettersOf.1, p0_ki_lettersOf.2.1, p0_ki_lettersOf.2.2.1, p0_ki_lettersOf.2.2.2.1, p0_ki_lettersOf.2.2.2.2, by decide⟩, lw_a2 54 (by decide +kernel) rfl, lw_a2 55 (by decide +kernel) rfl⟩
theorem p0_ki_mayBe : plainFor ki_mayBe.1 = true ∧ ki_mayBe.1 ≠ yL_law ∧ Cond.code ki_mayBe.1 ki_mayBe.2.1 ki_mayBe.2.2.1 ki_mayBe.2.2.2.1 ∈ lw_g ∧ Cond.initialized ki_mayBe.1.cls ∈ lw_g ∧ (ki_mayBe.1.cls ≠ "java/lang/invoke/MethodHandle" ∧ ki_mayBe.1.cls ≠ "java/lang/invoke/VarHandle" ∧ (parseMethodDescriptor ki_mayBe.1.desc).map (fun d => d.parameters.length) = some 3) := ⟨by decide +kernel, by decide +kernel, lw_a2 62 (by decide +kernel) rfl, lw_a1 2 (by decide +kernel) rfl, by decide +kernel, by decide +kernel, by decide +kernel⟩
theorem pk_to_kind_94 : mj_KS to_kind ki_mayBe 94 3 := ⟨⟨p0_ki_mayBe.1, p0_ki_mayBe.2.1, p0_ki_mayBe.2.2.1, p0_ki_mayBe.2.2.2.1, p0_ki_mayBe.2.2.2.2, by decide⟩, lw_a2 60 (by decide +kernel) rfl, lw_a2 61 (by decide +kernel) rfl⟩
theorem pk_to_kind_98 : mj_KV to_kind ki_isFull 98 5 0 := ⟨⟨p0_ki_isFull.1, p0_ki_isFull.2.1, p0_ki_isFull.2.2.1, p0_ki_isFull.2.2.2.1, p0_ki_isFull.2.2.2.2, by decide⟩, lw_a2 64 (by decide +kernel) rfl, lw_a2 65 (by decide +kernel) rfl, lw_a2 66 (by decide +kernel) rfl, _, _, rfl⟩
theorem p0_ki_withLetters : plainFor ki_withLetters.1 = true ∧ ki_withLetters.1 ≠ yL_law ∧ Cond.code ki_withLetters.1 ki_withLetters.2.1 ki_withLetters.2.2.1 ki_withLetters.2.2.2.1 ∈ lw_g ∧ Cond.initialized ki_withLetters.1.cls ∈ lw_g ∧ (ki_withLetters.1.cls ≠ "java/lang/invoke/MethodHandle" ∧ ki_withLetters.1.cls ≠ "java/lang/invoke/VarHandle" ∧ (parseMethodDescriptor ki_withLetters.1.desc).map (fun d => d.parameters.length) = some 1) := ⟨by decide +kernel, by decide +kernel, lw_a2 71 (by decide +kernel) rfl, lw_a1 2 (by decide +kernel) rfl, by decide +kernel, by decide +kernel, by decide +kernel⟩
theorem pk_to_kind_102 : mj_KV to_kind ki_withLetters 102 5 1 := ⟨⟨p0_ki_withLetters.1, p0_ki_withLetters.2.1, p0_ki_withLetters.2.2.1, p0_ki_withLetters.2.2.2.1, p0_ki_withLetters.2.2.2.2, by decide⟩, lw_a2 68 (by decide +kernel) rfl, lw_a2 69 (by decide +kernel) rfl, lw_a2 70 (by decide +kernel) rfl, _, _, rfl⟩
theorem p0_ki_add : plainFor ki_add.1 = true ∧ ki_add.1 ≠ yL_law ∧ Cond.code ki_add.1 ki_add.2.1 ki_add.2.2.1 ki_add.2.2.2.1 ∈ lw_g ∧ Cond.initialized ki_add.1.cls ∈ lw_g ∧ (ki_add.1.cls ≠ "java/lang/invoke/MethodHandle" ∧ ki_add.1.cls ≠ "java/lang/invoke/VarHandle" ∧ (parseMethodDescriptor ki_add.1.desc).map (fun d => d.parameters.length) = some 5) := ⟨by decide +kernel, by decide +kernel, lw_a2 75 (by decide +kernel) rfl, lw_a1 2 (by decide +kernel) rfl, by decide +kernel, by decide +kernel, by decide +kernel⟩
theorem pk_to_kind_106 : mj_KV to_kind ki_add 106 5 5 := ⟨⟨p0_ki_add.1, p0_ki_add.2.1, p0_ki_add.2.2.1, p0_ki_add.2.2.2.1, p0_ki_add.2.2.2.2, by decide⟩, lw_a2 72 (by decide +kernel) rfl, lw_a2 73 (by decide +kernel) rfl, lw_a2 74 (by decide +kernel) rfl, _, _, rfl⟩
theorem pk_to_named_90 : mj_KS to_named ki_lettersOf 90 1 := ⟨⟨p0_ki_lettersOf.1, p0_ki_lettersOf.2.1, p0_ki_lettersOf.2.2.1, p0_ki_lettersOf.2.2.2.1, p0_ki_lettersOf.2.2.2.2, by decide⟩, lw_a2 54 (by decide +kernel) rfl, lw_a2 55 (by decide +kernel) rfl⟩
theorem pk_to_named_102 : mj_KV to_named ki_withLetters 102 5 1 := ⟨⟨p0_ki_withLetters.1, p0_ki_withLetters.2.1, p0_ki_withLetters.2.2.1, p0_ki_withLetters.2.2.2.1, p0_ki_withLetters.2.2.2.2, by decide⟩, lw_a2 68 (by decide +kernel) rfl, lw_a2 69 (by decide +kernel) rfl, lw_a2 70 (by decide +kernel) rfl, _, _, rfl⟩
theorem p0_ki_has : plainFor ki_has.1 = true ∧ ki_has.1 ≠ yL_law ∧ Cond.code ki_has.1 ki_has.2.1 ki_has.2.2.1 ki_has.2.2.2.1 ∈ lw_g ∧ Cond.initialized ki_has.1.cls ∈ lw_g ∧ (ki_has.1.cls ≠ "java/lang/invoke/MethodHandle" ∧ ki_has.1.cls ≠ "java/lang/invoke/VarHandle" ∧ (parseMethodDescriptor ki_has.1.desc).map (fun d => d.parameters.length) = some 1) := ⟨by decide +kernel, by decide +kernel, lw_a2 88 (by decide +kernel) rfl, lw_a1 2 (by decide +kernel) rfl, by decide +kernel, by decide +kernel, by decide +kernel⟩
theorem pk_to_edge_110 : mj_KV to_edge ki_has 110 5 1 := ⟨⟨p0_ki_has.1, p0_ki_has.2.1, p0_ki_has.2.2.1, p0_ki_has.2.2.2.1, p0_ki_has.2.2.2.2, by decide⟩, lw_a2 85 (by decide +kernel) rfl, lw_a2 86 (by decide +kernel) rfl, lw_a2 87 (by decide +kernel) rfl, _, _, rfl⟩
theorem p0_to_isMove : plainFor to_isMove.1 = true ∧ to_isMove.1 ≠ yL_law ∧ Cond.code to_isMove.1 to_isMove.2.1 to_isMove.2.2.1 to_isMove.2.2.2.1 ∈ lw_g ∧ Cond.initialized to_isMove.1.cls ∈ lw_g ∧ (to_isMove.1.cls ≠ "java/lang/invoke/MethodHandle" ∧ to_isMove.1.cls ≠ "java/lang/invoke/VarHandle" ∧ (parseMethodDescriptor to_isMove.1.desc).map (fun d => d.parameters.length) = some 1) := ⟨by decide +kernel, by decide +kernel, lw_a2 91 (by decide +kernel) rfl, lw_a1 1 (by decide +kernel) rfl, by decide +kernel, by decide +kernel, by decide +kernel⟩
theorem pk_to_edge_114 : mj_KS to_edge to_isMove 114 1 := ⟨⟨p0_to_isMove.1, p0_to_isMove.2.1, p0_to_isMove.2.2.1, p0_to_isMove.2.2.2.1, p0_to_isMove.2.2.2.2, by decide⟩, lw_a2 89 (by decide +kernel) rfl, lw_a2 90 (by decide +kernel) rfl⟩
theorem pk_to_edge_117 : mj_KV to_edge ki_lies 117 5 2 := ⟨⟨p0_ki_lies.1, p0_ki_lies.2.1, p0_ki_lies.2.2.1, p0_ki_lies.2.2.2.1, p0_ki_lies.2.2.2.2, by decide⟩, lw_a2 92 (by decide +kernel) rfl, lw_a2 93 (by decide +kernel) rfl, lw_a2 94 (by decide +kernel) rfl, _, _, rfl⟩
theorem pk_to_edge_121 : mj_KV to_edge ki_colour 121 5 3 := ⟨⟨p0_ki_colour.1, p0_ki_colour.2.1, p0_ki_colour.2.2.1, p0_ki_colour.2.2.2.1, p0_ki_colour.2.2.2.2, by decide⟩, lw_a2 96 (by decide +kernel) rfl, lw_a2 97 (by decide +kernel) rfl, lw_a2 98 (by decide +kernel) rfl, _, _, rfl⟩
theorem pk_to_then_114 : mj_KS to_then to_isMove 114 1 := ⟨⟨p0_to_isMove.1, p0_to_isMove.2.1, p0_to_isMove.2.2.1, p0_to_isMove.2.2.2.1, p0_to_isMove.2.2.2.2, by decide⟩, lw_a2 89 (by decide +kernel) rfl, lw_a2 90 (by decide +kernel) rfl⟩
theorem pk_to_then_125 : mj_KS to_then ki_chained 125 2 := ⟨⟨p0_ki_chained.1, p0_ki_chained.2.1, p0_ki_chained.2.2.1, p0_ki_chained.2.2.2.1, p0_ki_chained.2.2.2.2, by decide⟩, lw_a2 104 (by decide +kernel) rfl, lw_a2 105 (by decide +kernel) rfl⟩
theorem pk_to_isKindInMove_110 : mj_KV to_isKindInMove ki_has 110 5 1 := ⟨⟨p0_ki_has.1, p0_ki_has.2.1, p0_ki_has.2.2.1, p0_ki_has.2.2.2.1, p0_ki_has.2.2.2.2, by decide⟩, lw_a2 85 (by decide +kernel) rfl, lw_a2 86 (by decide +kernel) rfl, lw_a2 87 (by decide +kernel) rfl, _, _, rfl⟩
theorem pk_to_isKindInMove_114 : mj_KS to_isKindInMove to_isMove 114 1 := ⟨⟨p0_to_isMove.1, p0_to_isMove.2.1, p0_to_isMove.2.2.1, p0_to_isMove.2.2.2.1, p0_to_isMove.2.2.2.2, by decide⟩, lw_a2 89 (by decide +kernel) rfl, lw_a2 90 (by decide +kernel) rfl⟩
theorem pf_to_128 : mj_F RX11 128 10 3 15 false .int := ⟨_, _, rfl, by decide, rfl, rfl, rfl, lw_a2 7 (by decide +kernel) rfl⟩
theorem p0_pa_init : plainFor pa_init.1 = true ∧ pa_init.1 ≠ yL_law ∧ Cond.code pa_init.1 pa_init.2.1 pa_init.2.2.1 pa_init.2.2.2.1 ∈ lw_g ∧ Cond.initialized pa_init.1.cls ∈ lw_g ∧ (pa_init.1.cls ≠ "java/lang/invoke/MethodHandle" ∧ pa_init.1.cls ≠ "java/lang/invoke/VarHandle" ∧ (parseMethodDescriptor pa_init.1.desc).map (fun d => d.parameters.length) = some 1) := ⟨by decide +kernel, by decide +kernel, lw_a2 114 (by decide +kernel) rfl, lw_a1 11 (by decide +kernel) rfl, by decide +kernel, by decide +kernel, by decide +kernel⟩
theorem pk_to_pattern_132 : mj_KI to_pattern pa_init 132 1 := ⟨⟨p0_pa_init.1, p0_pa_init.2.1, p0_pa_init.2.2.1, p0_pa_init.2.2.2.1, p0_pa_init.2.2.2.2, by decide⟩, lw_a2 112 (by decide +kernel) rfl, lw_a2 113 (by decide +kernel) rfl, rfl, rfl⟩
theorem p0_to_keep : plainFor to_keep.1 = true ∧ to_keep.1 ≠ yL_law ∧ Cond.code to_keep.1 to_keep.2.1 to_keep.2.2.1 to_keep.2.2.2.1 ∈ lw_g ∧ Cond.initialized to_keep.1.cls ∈ lw_g ∧ (to_keep.1.cls ≠ "java/lang/invoke/MethodHandle" ∧ to_keep.1.cls ≠ "java/lang/invoke/VarHandle" ∧ (parseMethodDescriptor to_keep.1.desc).map (fun d => d.parameters.length) = some 1) := ⟨by decide +kernel, by decide +kernel, lw_a2 134 (by decide +kernel) rfl, lw_a1 1 (by decide +kernel) rfl, by decide +kernel, by decide +kernel, by decide +kernel⟩
theorem pk_to_pattern_135 : mj_KV to_pattern to_keep 135 10 1 := ⟨⟨p0_to_keep.1, p0_to_keep.2.1, p0_to_keep.2.2.1, p0_to_keep.2.2.2.1, p0_to_keep.2.2.2.2, by decide⟩, lw_a2 131 (by decide +kernel) rfl, lw_a2 133 (by decide +kernel) rfl, lw_a0 0 (by decide +kernel) rfl, _, _, rfl⟩
theorem p0_to_patternOf : plainFor to_patternOf.1 = true ∧ to_patternOf.1 ≠ yL_law ∧ Cond.code to_patternOf.1 to_patternOf.2.1 to_patternOf.2.2.1 to_patternOf.2.2.2.1 ∈ lw_g ∧ Cond.initialized to_patternOf.1.cls ∈ lw_g ∧ (to_patternOf.1.cls ≠ "java/lang/invoke/MethodHandle" ∧ to_patternOf.1.cls ≠ "java/lang/invoke/VarHandle" ∧ (parseMethodDescriptor to_patternOf.1.desc).map (fun d => d.parameters.length) = some 1) := ⟨by decide +kernel, by decide +kernel, lw_a2 142 (by decide +kernel) rfl, lw_a1 1 (by decide +kernel) rfl, by decide +kernel, by decide +kernel, by decide +kernel⟩
theorem pk_to_insert_139 : mj_KV to_insert to_patternOf 139 10 1 := ⟨⟨p0_to_patternOf.1, p0_to_patternOf.2.1, p0_to_patternOf.2.2.1, p0_to_patternOf.2.2.2.1, p0_to_patternOf.2.2.2.2, by decide⟩, lw_a2 139 (by decide +kernel) rfl, lw_a2 141 (by decide +kernel) rfl, lw_a0 1 (by decide +kernel) rfl, _, _, rfl⟩
theorem pf_to_143 : mj_F RX11 143 6 2 3 false .int := ⟨_, _, rfl, by decide, rfl, rfl, rfl, lw_a2 123 (by decide +kernel) rfl⟩
theorem pk_to_insert_146 : mj_KS to_insert rs_mayBe 146 2 := ⟨⟨p0_rs_mayBe.1, p0_rs_mayBe.2.1, p0_rs_mayBe.2.2.1, p0_rs_mayBe.2.2.2.1, p0_rs_mayBe.2.2.2.2, by decide⟩, lw_a2 143 (by decide +kernel) rfl, lw_a2 144 (by decide +kernel) rfl⟩
theorem p0_rs_left : plainFor rs_left.1 = true ∧ rs_left.1 ≠ yL_law ∧ Cond.code rs_left.1 rs_left.2.1 rs_left.2.2.1 rs_left.2.2.2.1 ∈ lw_g ∧ Cond.initialized rs_left.1.cls ∈ lw_g ∧ (rs_left.1.cls ≠ "java/lang/invoke/MethodHandle" ∧ rs_left.1.cls ≠ "java/lang/invoke/VarHandle" ∧ (parseMethodDescriptor rs_left.1.desc).map (fun d => d.parameters.length) = some 0) := ⟨by decide +kernel, by decide +kernel, lw_a2 149 (by decide +kernel) rfl, lw_a1 6 (by decide +kernel) rfl, by decide +kernel, by decide +kernel, by decide +kernel⟩
theorem pk_to_insert_149 : mj_KV to_insert rs_left 149 7 0 := ⟨⟨p0_rs_left.1, p0_rs_left.2.1, p0_rs_left.2.2.1, p0_rs_left.2.2.2.1, p0_rs_left.2.2.2.2, by decide⟩, lw_a2 146 (by decide +kernel) rfl, lw_a2 147 (by decide +kernel) rfl, lw_a2 148 (by decide +kernel) rfl, _, _, rfl⟩
theorem p0_hi_remember : plainFor hi_remember.1 = true ∧ hi_remember.1 ≠ yL_law ∧ Cond.code hi_remember.1 hi_remember.2.1 hi_remember.2.2.1 hi_remember.2.2.2.1 ∈ lw_g ∧ Cond.initialized hi_remember.1.cls ∈ lw_g ∧ (hi_remember.1.cls ≠ "java/lang/invoke/MethodHandle" ∧ hi_remember.1.cls ≠ "java/lang/invoke/VarHandle" ∧ (parseMethodDescriptor hi_remember.1.desc).map (fun d => d.parameters.length) = some 2) := ⟨by decide +kernel, by decide +kernel, lw_a2 153 (by decide +kernel) rfl, lw_a1 7 (by decide +kernel) rfl, by decide +kernel, by decide +kernel, by decide +kernel⟩
theorem pk_to_insert_153 : mj_KV to_insert hi_remember 153 4 2 := ⟨⟨p0_hi_remember.1, p0_hi_remember.2.1, p0_hi_remember.2.2.1, p0_hi_remember.2.2.2.1, p0_hi_remember.2.2.2.2, by decide⟩, lw_a2 150 (by decide +kernel) rfl, lw_a2 151 (by decide +kernel) rfl, lw_a2 152 (by decide +kernel) rfl, _, _, rfl⟩
theorem p0_rs_make : plainFor rs_make.1 = true ∧ rs_make.1 ≠ yL_law ∧ Cond.code rs_make.1 rs_make.2.1 rs_make.2.2.1 rs_make.2.2.2.1 ∈ lw_g ∧ Cond.initialized rs_make.1.cls ∈ lw_g ∧ (rs_make.1.cls ≠ "java/lang/invoke/MethodHandle" ∧ rs_make.1.cls ≠ "java/lang/invoke/VarHandle" ∧ (parseMethodDescriptor rs_make.1.desc).map (fun d => d.parameters.length) = some 2) := ⟨by decide +kernel, by decide +kernel, lw_a2 163 (by decide +kernel) rfl, lw_a1 6 (by decide +kernel) rfl, by decide +kernel, by decide +kernel, by decide +kernel⟩
theorem pk_to_insert_157 : mj_KV to_insert rs_make 157 7 2 := ⟨⟨p0_rs_make.1, p0_rs_make.2.1, p0_rs_make.2.2.1, p0_rs_make.2.2.2.1, p0_rs_make.2.2.2.2, by decide⟩, lw_a2 160 (by decide +kernel) rfl, lw_a2 161 (by decide +kernel) rfl, lw_a2 162 (by decide +kernel) rfl, _, _, rfl⟩
theorem p0_pa_insertId : plainFor pa_insertId.1 = true ∧ pa_insertId.1 ≠ yL_law ∧ Cond.code pa_insertId.1 pa_insertId.2.1 pa_insertId.2.2.1 pa_insertId.2.2.2.1 ∈ lw_g ∧ Cond.initialized pa_insertId.1.cls ∈ lw_g ∧ (pa_insertId.1.cls ≠ "java/lang/invoke/MethodHandle" ∧ pa_insertId.1.cls ≠ "java/lang/invoke/VarHandle" ∧ (parseMethodDescriptor pa_insertId.1.desc).map (fun d => d.parameters.length) = some 2) := ⟨by decide +kernel, by decide +kernel, lw_a2 175 (by decide +kernel) rfl, lw_a1 11 (by decide +kernel) rfl, by decide +kernel, by decide +kernel, by decide +kernel⟩
theorem pk_to_insert_160 : mj_KV to_insert pa_insertId 160 6 2 := ⟨⟨p0_pa_insertId.1, p0_pa_insertId.2.1, p0_pa_insertId.2.2.1, p0_pa_insertId.2.2.2.1, p0_pa_insertId.2.2.2.2, by decide⟩, lw_a2 172 (by decide +kernel) rfl, lw_a2 173 (by decide +kernel) rfl, lw_a2 174 (by decide +kernel) rfl, _, _, rfl⟩
theorem pk_to_remove_139 : mj_KV to_remove to_patternOf 139 10 1 := ⟨⟨p0_to_patternOf.1, p0_to_patternOf.2.1, p0_to_patternOf.2.2.1, p0_to_patternOf.2.2.2.1, p0_to_patternOf.2.2.2.2, by decide⟩, lw_a2 139 (by decide +kernel) rfl, lw_a2 141 (by decide +kernel) rfl, lw_a0 1 (by decide +kernel) rfl, _, _, rfl⟩
theorem pk_to_remove_164 : mj_KV to_remove pa_hasRow 164 6 1 := ⟨⟨p0_pa_hasRow.1, p0_pa_hasRow.2.1, p0_pa_hasRow.2.2.1, p0_pa_hasRow.2.2.2.1, p0_pa_hasRow.2.2.2.2, by decide⟩, lw_a2 181 (by decide +kernel) rfl, lw_a2 182 (by decide +kernel) rfl, lw_a2 183 (by decide +kernel) rfl, _, _, rfl⟩
theorem pk_to_remove_153 : mj_KV to_remove hi_remember 153 4 2 := ⟨⟨p0_hi_remember.1, p0_hi_remember.2.1, p0_hi_remember.2.2.1, p0_hi_remember.2.2.2.1, p0_hi_remember.2.2.2.2, by decide⟩, lw_a2 150 (by decide +kernel) rfl, lw_a2 151 (by decide +kernel) rfl, lw_a2 152 (by decide +kernel) rfl, _, _, rfl⟩
theorem p0_pa_removeId : plainFor pa_removeId.1 = true ∧ pa_removeId.1 ≠ yL_law ∧ Cond.code pa_removeId.1 pa_removeId.2.1 pa_removeId.2.2.1 pa_removeId.2.2.2.1 ∈ lw_g ∧ Cond.initialized pa_removeId.1.cls ∈ lw_g ∧ (pa_removeId.1.cls ≠ "java/lang/invoke/MethodHandle" ∧ pa_removeId.1.cls ≠ "java/lang/invoke/VarHandle" ∧ (parseMethodDescriptor pa_removeId.1.desc).map (fun d => d.parameters.length) = some 1) := ⟨by decide +kernel, by decide +kernel, lw_a2 188 (by decide +kernel) rfl, lw_a1 11 (by decide +kernel) rfl, by decide +kernel, by decide +kernel, by decide +kernel⟩
theorem pk_to_remove_168 : mj_KV to_remove pa_removeId 168 6 1 := ⟨⟨p0_pa_removeId.1, p0_pa_removeId.2.1, p0_pa_removeId.2.2.1, p0_pa_removeId.2.2.2.1, p0_pa_removeId.2.2.2.2, by decide⟩, lw_a2 185 (by decide +kernel) rfl, lw_a2 186 (by decide +kernel) rfl, lw_a2 187 (by decide +kernel) rfl, _, _, rfl⟩
theorem pk_to_move_139 : mj_KV to_move to_patternOf 139 10 1 := ⟨⟨p0_to_patternOf.1, p0_to_patternOf.2.1, p0_to_patternOf.2.2.1, p0_to_patternOf.2.2.2.1, p0_to_patternOf.2.2.2.2, by decide⟩, lw_a2 139 (by decide +kernel) rfl, lw_a2 141 (by decide +kernel) rfl, lw_a0 1 (by decide +kernel) rfl, _, _, rfl⟩
theorem pk_to_move_164 : mj_KV to_move pa_hasRow 164 6 1 := ⟨⟨p0_pa_hasRow.1, p0_pa_hasRow.2.1, p0_pa_hasRow.2.2.1, p0_pa_hasRow.2.2.2.1, p0_pa_hasRow.2.2.2.2, by decide⟩, lw_a2 181 (by decide +kernel) rfl, lw_a2 182 (by decide +kernel) rfl, lw_a2 183 (by decide +kernel) rfl, _, _, rfl⟩
theorem pk_to_move_153 : mj_KV to_move hi_remember 153 4 2 := ⟨⟨p0_hi_remember.1, p0_hi_remember.2.1, p0_hi_remember.2.2.1, p0_hi_remember.2.2.2.1, p0_hi_remember.2.2.2.2, by decide⟩, lw_a2 150 (by decide +kernel) rfl, lw_a2 151 (by decide +kernel) rfl, lw_a2 152 (by decide +kernel) rfl, _, _, rfl⟩
theorem pk_to_move_171 : mj_KV to_move pa_idAt 171 6 1 := ⟨⟨p0_pa_idAt.1, p0_pa_idAt.2.1, p0_pa_idAt.2.2.1, p0_pa_idAt.2.2.2.1, p0_pa_idAt.2.2.2.2, by decide⟩, lw_a2 194 (by decide +kernel) rfl, lw_a2 195 (by decide +kernel) rfl, lw_a2 196 (by decide +kernel) rfl, _, _, rfl⟩
theorem pk_to_move_168 : mj_KV to_move pa_removeId 168 6 1 := ⟨⟨p0_pa_removeId.1, p0_pa_removeId.2.1, p0_pa_removeId.2.2.1, p0_pa_removeId.2.2.2.1, p0_pa_removeId.2.2.2.2, by decide⟩, lw_a2 185 (by decide +kernel) rfl, lw_a2 186 (by decide +kernel) rfl, lw_a2 187 (by decide +kernel) rfl, _, _, rfl⟩
theorem pk_to_move_160 : mj_KV to_move pa_insertId 160 6 2 := ⟨⟨p0_pa_insertId.1, p0_pa_insertId.2.1, p0_pa_insertId.2.2.1, p0_pa_insertId.2.2.2.1, p0_pa_insertId.2.2.2.2, by decide⟩, lw_a2 172 (by decide +kernel) rfl, lw_a2 173 (by decide +kernel) rfl, lw_a2 174 (by decide +kernel) rfl, _, _, rfl⟩
theorem p0_to_setCell : plainFor to_setCell.1 = true ∧ to_setCell.1 ≠ yL_law ∧ Cond.code to_setCell.1 to_setCell.2.1 to_setCell.2.2.1 to_setCell.2.2.2.1 ∈ lw_g ∧ Cond.initialized to_setCell.1.cls ∈ lw_g ∧ (to_setCell.1.cls ≠ "java/lang/invoke/MethodHandle" ∧ to_setCell.1.cls ≠ "java/lang/invoke/VarHandle" ∧ (parseMethodDescriptor to_setCell.1.desc).map (fun d => d.parameters.length) = some 4) := ⟨by decide +kernel, by decide +kernel, lw_a2 205 (by decide +kernel) rfl, lw_a1 1 (by decide +kernel) rfl, by decide +kernel, by decide +kernel, by decide +kernel⟩
theorem pk_to_put_176 : mj_KV to_put to_setCell 176 10 4 := ⟨⟨p0_to_setCell.1, p0_to_setCell.2.1, p0_to_setCell.2.2.1, p0_to_setCell.2.2.2.1, p0_to_setCell.2.2.2.2, by decide⟩, lw_a2 202 (by decide +kernel) rfl, lw_a2 204 (by decide +kernel) rfl, lw_a0 3 (by decide +kernel) rfl, _, _, rfl⟩
theorem p0_to_isKindInMove : plainFor to_isKindInMove.1 = true ∧ to_isKindInMove.1 ≠ yL_law ∧ Cond.code to_isKindInMove.1 to_isKindInMove.2.1 to_isKindInMove.2.2.1 to_isKindInMove.2.2.2.1 ∈ lw_g ∧ Cond.initialized to_isKindInMove.1.cls ∈ lw_g ∧ (to_isKindInMove.1.cls ≠ "java/lang/invoke/MethodHandle" ∧ to_isKindInMove.1.cls ≠ "java/lang/invoke/VarHandle" ∧ (parseMethodDescriptor to_isKindInMove.1.desc).map (fun d => d.parameters.length) = some 2) := ⟨by decide +kernel, by decide +kernel, lw_a3 4 (by decide +kernel) rfl, lw_a1 1 (by decide +kernel) rfl, by decide +kernel, by decide +kernel, by decide +kernel⟩
theorem pk_to_put_180 : mj_KV to_put to_isKindInMove 180 10 2 := ⟨⟨p0_to_isKindInMove.1, p0_to_isKindInMove.2.1, p0_to_isKindInMove.2.2.1, p0_to_isKindInMove.2.2.2.1, p0_to_isKindInMove.2.2.2.2, by decide⟩, lw_a3 1 (by decide +kernel) rfl, lw_a3 3 (by decide +kernel) rfl, lw_a0 5 (by decide +kernel) rfl, _, _, rfl⟩
theorem p0_ki_cellOf : plainFor ki_cellOf.1 = true ∧ ki_cellOf.1 ≠ yL_law ∧ Cond.code ki_cellOf.1 ki_cellOf.2.1 ki_cellOf.2.2.1 ki_cellOf.2.2.2.1 ∈ lw_g ∧ Cond.initialized ki_cellOf.1.cls ∈ lw_g ∧ (ki_cellOf.1.cls ≠ "java/lang/invoke/MethodHandle" ∧ ki_cellOf.1.cls ≠ "java/lang/invoke/VarHandle" ∧ (parseMethodDescriptor ki_cellOf.1.desc).map (fun d => d.parameters.length) = some 2) := ⟨by decide +kernel, by decide +kernel, lw_a3 8 (by decide +kernel) rfl, lw_a1 2 (by decide +kernel) rfl, by decide +kernel, by decide +kernel, by decide +kernel⟩
theorem pk_to_put_183 : mj_KV to_put ki_cellOf 183 5 2 := ⟨⟨p0_ki_cellOf.1, p0_ki_cellOf.2.1, p0_ki_cellOf.2.2.1, p0_ki_cellOf.2.2.2.1, p0_ki_cellOf.2.2.2.2, by decide⟩, lw_a3 5 (by decide +kernel) rfl, lw_a3 6 (by decide +kernel) rfl, lw_a3 7 (by decide +kernel) rfl, _, _, rfl⟩
theorem pk_to_shade_139 : mj_KV to_shade to_patternOf 139 10 1 := ⟨⟨p0_to_patternOf.1, p0_to_patternOf.2.1, p0_to_patternOf.2.2.1, p0_to_patternOf.2.2.2.1, p0_to_patternOf.2.2.2.2, by decide⟩, lw_a2 139 (by decide +kernel) rfl, lw_a2 141 (by decide +kernel) rfl, lw_a0 1 (by decide +kernel) rfl, _, _, rfl⟩
theorem pk_to_shade_186 : mj_KV to_shade pa_cellAt 186 6 2 := ⟨⟨p0_pa_cellAt.1, p0_pa_cellAt.2.1, p0_pa_cellAt.2.2.1, p0_pa_cellAt.2.2.2.1, p0_pa_cellAt.2.2.2.2, by decide⟩, lw_a2 206 (by decide +kernel) rfl, lw_a2 207 (by decide +kernel) rfl, lw_a2 208 (by decide +kernel) rfl, _, _, rfl⟩
theorem pk_to_shade_190 : mj_KS to_shade ce_shaded 190 2 := ⟨⟨p0_ce_shaded.1, p0_ce_shaded.2.1, p0_ce_shaded.2.2.1, p0_ce_shaded.2.2.2.1, p0_ce_shaded.2.2.2.2, by decide⟩, lw_a3 18 (by decide +kernel) rfl, lw_a3 19 (by decide +kernel) rfl⟩
theorem pk_to_shade_176 : mj_KV to_shade to_setCell 176 10 4 := ⟨⟨p0_to_setCell.1, p0_to_setCell.2.1, p0_to_setCell.2.2.1, p0_to_setCell.2.2.2.1, p0_to_setCell.2.2.2.2, by decide⟩, lw_a2 202 (by decide +kernel) rfl, lw_a2 204 (by decide +kernel) rfl, lw_a0 3 (by decide +kernel) rfl, _, _, rfl⟩
theorem pk_to_setCell_139 : mj_KV to_setCell to_patternOf 139 10 1 := ⟨⟨p0_to_patternOf.1, p0_to_patternOf.2.1, p0_to_patternOf.2.2.1, p0_to_patternOf.2.2.2.1, p0_to_patternOf.2.2.2.2, by decide⟩, lw_a2 139 (by decide +kernel) rfl, lw_a2 141 (by decide +kernel) rfl, lw_a0 1 (by decide +kernel) rfl, _, _, rfl⟩
theorem pk_to_setCell_186 : mj_KV to_setCell pa_cellAt 186 6 2 := ⟨⟨p0_pa_cellAt.1, p0_pa_cellAt.2.1, p0_pa_cellAt.2.2.1, p0_pa_cellAt.2.2.2.1, p0_pa_cellAt.2.2.2.2, by decide⟩, lw_a2 206 (by decide +kernel) rfl, lw_a2 207 (by decide +kernel) rfl, lw_a2 208 (by decide +kernel) rfl, _, _, rfl⟩
theorem pk_to_setCell_149 : mj_KV to_setCell rs_left 149 7 0 := ⟨⟨p0_rs_left.1, p0_rs_left.2.1, p0_rs_left.2.2.1, p0_rs_left.2.2.2.1, p0_rs_left.2.2.2.2, by decide⟩, lw_a2 146 (by decide +kernel) rfl, lw_a2 147 (by decide +kernel) rfl, lw_a2 148 (by decide +kernel) rfl, _, _, rfl⟩
theorem pk_to_setCell_153 : mj_KV to_setCell hi_remember 153 4 2 := ⟨⟨p0_hi_remember.1, p0_hi_remember.2.1, p0_hi_remember.2.2.1, p0_hi_remember.2.2.2.1, p0_hi_remember.2.2.2.2, by decide⟩, lw_a2 150 (by decide +kernel) rfl, lw_a2 151 (by decide +kernel) rfl, lw_a2 152 (by decide +kernel) rfl, _, _, rfl⟩
theorem p0_pa_renewRow : plainFor pa_renewRow.1 = true ∧ pa_renewRow.1 ≠ yL_law ∧ Cond.code pa_renewRow.1 pa_renewRow.2.1 pa_renewRow.2.2.1 pa_renewRow.2.2.2.1 ∈ lw_g ∧ Cond.initialized pa_renewRow.1.cls ∈ lw_g ∧ (pa_renewRow.1.cls ≠ "java/lang/invoke/MethodHandle" ∧ pa_renewRow.1.cls ≠ "java/lang/invoke/VarHandle" ∧ (parseMethodDescriptor pa_renewRow.1.desc).map (fun d => d.parameters.length) = some 1) := ⟨by decide +kernel, by decide +kernel, lw_a2 226 (by decide +kernel) rfl, lw_a1 11 (by decide +kernel) rfl, by decide +kernel, by decide +kernel, by decide +kernel⟩
theorem pk_to_setCell_193 : mj_KV to_setCell pa_renewRow 193 6 1 := ⟨⟨p0_pa_renewRow.1, p0_pa_renewRow.2.1, p0_pa_renewRow.2.2.1, p0_pa_renewRow.2.2.2.1, p0_pa_renewRow.2.2.2.2, by decide⟩, lw_a2 223 (by decide +kernel) rfl, lw_a2 224 (by decide +kernel) rfl, lw_a2 225 (by decide +kernel) rfl, _, _, rfl⟩
theorem p0_rs_setCell : plainFor rs_setCell.1 = true ∧ rs_setCell.1 ≠ yL_law ∧ Cond.code rs_setCell.1 rs_setCell.2.1 rs_setCell.2.2.1 rs_setCell.2.2.2.1 ∈ lw_g ∧ Cond.initialized rs_setCell.1.cls ∈ lw_g ∧ (rs_setCell.1.cls ≠ "java/lang/invoke/MethodHandle" ∧ rs_setCell.1.cls ≠ "java/lang/invoke/VarHandle" ∧ (parseMethodDescriptor rs_setCell.1.desc).map (fun d => d.parameters.length) = some 3) := ⟨by decide +kernel, by decide +kernel, lw_a3 0 (by decide +kernel) rfl, lw_a1 6 (by decide +kernel) rfl, by decide +kernel, by decide +kernel, by decide +kernel⟩
theorem pk_to_setCell_197 : mj_KV to_setCell rs_setCell 197 7 3 := ⟨⟨p0_rs_setCell.1, p0_rs_setCell.2.1, p0_rs_setCell.2.2.1, p0_rs_setCell.2.2.2.1, p0_rs_setCell.2.2.2.2, by decide⟩, lw_a2 237 (by decide +kernel) rfl, lw_a2 238 (by decide +kernel) rfl, lw_a2 239 (by decide +kernel) rfl, _, _, rfl⟩
theorem pk_to_at_139 : mj_KV to_at to_patternOf 139 10 1 := ⟨⟨p0_to_patternOf.1, p0_to_patternOf.2.1, p0_to_patternOf.2.2.1, p0_to_patternOf.2.2.2.1, p0_to_patternOf.2.2.2.2, by decide⟩, lw_a2 139 (by decide +kernel) rfl, lw_a2 141 (by decide +kernel) rfl, lw_a0 1 (by decide +kernel) rfl, _, _, rfl⟩
theorem pk_to_at_186 : mj_KV to_at pa_cellAt 186 6 2 := ⟨⟨p0_pa_cellAt.1, p0_pa_cellAt.2.1, p0_pa_cellAt.2.2.1, p0_pa_cellAt.2.2.2.1, p0_pa_cellAt.2.2.2.2, by decide⟩, lw_a2 206 (by decide +kernel) rfl, lw_a2 207 (by decide +kernel) rfl, lw_a2 208 (by decide +kernel) rfl, _, _, rfl⟩
theorem pk_to_at_200 : mj_KS to_at ce_kindOf 200 1 := ⟨⟨p0_ce_kindOf.1, p0_ce_kindOf.2.1, p0_ce_kindOf.2.2.1, p0_ce_kindOf.2.2.2.1, p0_ce_kindOf.2.2.2.2, by decide⟩, lw_a3 32 (by decide +kernel) rfl, lw_a3 22 (by decide +kernel) rfl⟩
theorem pk_to_at_203 : mj_KS to_at ce_moveOf 203 1 := ⟨⟨p0_ce_moveOf.1, p0_ce_moveOf.2.1, p0_ce_moveOf.2.2.1, p0_ce_moveOf.2.2.2.1, p0_ce_moveOf.2.2.2.2, by decide⟩, lw_a3 33 (by decide +kernel) rfl, lw_a3 25 (by decide +kernel) rfl⟩
theorem pk_to_at_206 : mj_KS to_at ce_shadeOf 206 1 := ⟨⟨p0_ce_shadeOf.1, p0_ce_shadeOf.2.1, p0_ce_shadeOf.2.2.1, p0_ce_shadeOf.2.2.2.1, p0_ce_shadeOf.2.2.2.2, by decide⟩, lw_a3 34 (by decide +kernel) rfl, lw_a3 35 (by decide +kernel) rfl⟩
theorem pk_to_row_139 : mj_KV to_row to_patternOf 139 10 1 := ⟨⟨p0_to_patternOf.1, p0_to_patternOf.2.1, p0_to_patternOf.2.2.1, p0_to_patternOf.2.2.2.1, p0_to_patternOf.2.2.2.2, by decide⟩, lw_a2 139 (by decide +kernel) rfl, lw_a2 141 (by decide +kernel) rfl, lw_a0 1 (by decide +kernel) rfl, _, _, rfl⟩
theorem pk_to_row_164 : mj_KV to_row pa_hasRow 164 6 1 := ⟨⟨p0_pa_hasRow.1, p0_pa_hasRow.2.1, p0_pa_hasRow.2.2.1, p0_pa_hasRow.2.2.2.1, p0_pa_hasRow.2.2.2.2, by decide⟩, lw_a2 181 (by decide +kernel) rfl, lw_a2 182 (by decide +kernel) rfl, lw_a2 183 (by decide +kernel) rfl, _, _, rfl⟩
theorem pk_to_row_171 : mj_KV to_row pa_idAt 171 6 1 := ⟨⟨p0_pa_idAt.1, p0_pa_idAt.2.1, p0_pa_idAt.2.2.1, p0_pa_idAt.2.2.2.1, p0_pa_idAt.2.2.2.2, by decide⟩, lw_a2 194 (by decide +kernel) rfl, lw_a2 195 (by decide +kernel) rfl, lw_a2 196 (by decide +kernel) rfl, _, _, rfl⟩
theorem p0_to_placesOf : plainFor to_placesOf.1 = true ∧ to_placesOf.1 ≠ yL_law ∧ Cond.code to_placesOf.1 to_placesOf.2.1 to_placesOf.2.2.1 to_placesOf.2.2.2.1 ∈ lw_g ∧ Cond.initialized to_placesOf.1.cls ∈ lw_g ∧ (to_placesOf.1.cls ≠ "java/lang/invoke/MethodHandle" ∧ to_placesOf.1.cls ≠ "java/lang/invoke/VarHandle" ∧ (parseMethodDescriptor to_placesOf.1.desc).map (fun d => d.parameters.length) = some 1) := ⟨by decide +kernel, by decide +kernel, lw_a3 44 (by decide +kernel) rfl, lw_a1 1 (by decide +kernel) rfl, by decide +kernel, by decide +kernel, by decide +kernel⟩
theorem pk_to_row_209 : mj_KV to_row to_placesOf 209 10 1 := ⟨⟨p0_to_placesOf.1, p0_to_placesOf.2.1, p0_to_placesOf.2.2.1, p0_to_placesOf.2.2.2.1, p0_to_placesOf.2.2.2.2, by decide⟩, lw_a3 41 (by decide +kernel) rfl, lw_a3 43 (by decide +kernel) rfl, lw_a0 6 (by decide +kernel) rfl, _, _, rfl⟩
theorem pk_to_row_212 : mj_KV to_row pa_lengthAt 212 6 1 := ⟨⟨p0_pa_lengthAt.1, p0_pa_lengthAt.2.1, p0_pa_lengthAt.2.2.1, p0_pa_lengthAt.2.2.2.1, p0_pa_lengthAt.2.2.2.2, by decide⟩, lw_a3 49 (by decide +kernel) rfl, lw_a3 50 (by decide +kernel) rfl, lw_a3 51 (by decide +kernel) rfl, _, _, rfl⟩
theorem pk_to_row_215 : mj_KV to_row pa_offsetAt 215 6 1 := ⟨⟨p0_pa_offsetAt.1, p0_pa_offsetAt.2.1, p0_pa_offsetAt.2.2.1, p0_pa_offsetAt.2.2.2.1, p0_pa_offsetAt.2.2.2.2, by decide⟩, lw_a3 57 (by decide +kernel) rfl, lw_a3 58 (by decide +kernel) rfl, lw_a3 59 (by decide +kernel) rfl, _, _, rfl⟩
theorem pk_to_placesOf_139 : mj_KV to_placesOf to_patternOf 139 10 1 := ⟨⟨p0_to_patternOf.1, p0_to_patternOf.2.1, p0_to_patternOf.2.2.1, p0_to_patternOf.2.2.2.1, p0_to_patternOf.2.2.2.2, by decide⟩, lw_a2 139 (by decide +kernel) rfl, lw_a2 141 (by decide +kernel) rfl, lw_a0 1 (by decide +kernel) rfl, _, _, rfl⟩
theorem p0_pa_placesOf : plainFor pa_placesOf.1 = true ∧ pa_placesOf.1 ≠ yL_law ∧ Cond.code pa_placesOf.1 pa_placesOf.2.1 pa_placesOf.2.2.1 pa_placesOf.2.2.2.1 ∈ lw_g ∧ Cond.initialized pa_placesOf.1.cls ∈ lw_g ∧ (pa_placesOf.1.cls ≠ "java/lang/invoke/MethodHandle" ∧ pa_placesOf.1.cls ≠ "java/lang/invoke/VarHandle" ∧ (parseMethodDescriptor pa_placesOf.1.desc).map (fun d => d.parameters.length) = some 1) := ⟨by decide +kernel, by decide +kernel, lw_a3 48 (by decide +kernel) rfl, lw_a1 11 (by decide +kernel) rfl, by decide +kernel, by decide +kernel, by decide +kernel⟩
theorem pk_to_placesOf_218 : mj_KV to_placesOf pa_placesOf 218 6 1 := ⟨⟨p0_pa_placesOf.1, p0_pa_placesOf.2.1, p0_pa_placesOf.2.2.1, p0_pa_placesOf.2.2.2.1, p0_pa_placesOf.2.2.2.2, by decide⟩, lw_a3 45 (by decide +kernel) rfl, lw_a3 46 (by decide +kernel) rfl, lw_a3 47 (by decide +kernel) rfl, _, _, rfl⟩
theorem pk_to_shares_139 : mj_KV to_shares to_patternOf 139 10 1 := ⟨⟨p0_to_patternOf.1, p0_to_patternOf.2.1, p0_to_patternOf.2.2.1, p0_to_patternOf.2.2.2.1, p0_to_patternOf.2.2.2.2, by decide⟩, lw_a2 139 (by decide +kernel) rfl, lw_a2 141 (by decide +kernel) rfl, lw_a0 1 (by decide +kernel) rfl, _, _, rfl⟩
theorem pk_to_shares_164 : mj_KV to_shares pa_hasRow 164 6 1 := ⟨⟨p0_pa_hasRow.1, p0_pa_hasRow.2.1, p0_pa_hasRow.2.2.1, p0_pa_hasRow.2.2.2.1, p0_pa_hasRow.2.2.2.2, by decide⟩, lw_a2 181 (by decide +kernel) rfl, lw_a2 182 (by decide +kernel) rfl, lw_a2 183 (by decide +kernel) rfl, _, _, rfl⟩
theorem pk_to_shares_171 : mj_KV to_shares pa_idAt 171 6 1 := ⟨⟨p0_pa_idAt.1, p0_pa_idAt.2.1, p0_pa_idAt.2.2.1, p0_pa_idAt.2.2.2.1, p0_pa_idAt.2.2.2.2, by decide⟩, lw_a2 194 (by decide +kernel) rfl, lw_a2 195 (by decide +kernel) rfl, lw_a2 196 (by decide +kernel) rfl, _, _, rfl⟩
theorem pk_to_copy_139 : mj_KV to_copy to_patternOf 139 10 1 := ⟨⟨p0_to_patternOf.1, p0_to_patternOf.2.1, p0_to_patternOf.2.2.1, p0_to_patternOf.2.2.2.1, p0_to_patternOf.2.2.2.2, by decide⟩, lw_a2 139 (by decide +kernel) rfl, lw_a2 141 (by decide +kernel) rfl, lw_a0 1 (by decide +kernel) rfl, _, _, rfl⟩
theorem pk_to_copy_132 : mj_KI to_copy pa_init 132 1 := ⟨⟨p0_pa_init.1, p0_pa_init.2.1, p0_pa_init.2.2.1, p0_pa_init.2.2.2.1, p0_pa_init.2.2.2.2, by decide⟩, lw_a2 112 (by decide +kernel) rfl, lw_a2 113 (by decide +kernel) rfl, rfl, rfl⟩
theorem pf_to_219 : mj_F RX11 219 6 1 3 true (.array .int) := ⟨_, _, rfl, by decide, rfl, rfl, rfl, lw_a2 119 (by decide +kernel) rfl⟩
theorem pk_to_copy_222 : mj_KV to_copy pa_takeRows 222 6 3 := ⟨⟨p0_pa_takeRows.1, p0_pa_takeRows.2.1, p0_pa_takeRows.2.2.1, p0_pa_takeRows.2.2.2.1, p0_pa_takeRows.2.2.2.2, by decide⟩, lw_a3 70 (by decide +kernel) rfl, lw_a3 71 (by decide +kernel) rfl, lw_a3 72 (by decide +kernel) rfl, _, _, rfl⟩
theorem pk_to_copy_135 : mj_KV to_copy to_keep 135 10 1 := ⟨⟨p0_to_keep.1, p0_to_keep.2.1, p0_to_keep.2.2.1, p0_to_keep.2.2.2.1, p0_to_keep.2.2.2.2, by decide⟩, lw_a2 131 (by decide +kernel) rfl, lw_a2 133 (by decide +kernel) rfl, lw_a0 0 (by decide +kernel) rfl, _, _, rfl⟩
theorem pk_to_region_139 : mj_KV to_region to_patternOf 139 10 1 := ⟨⟨p0_to_patternOf.1, p0_to_patternOf.2.1, p0_to_patternOf.2.2.1, p0_to_patternOf.2.2.2.1, p0_to_patternOf.2.2.2.2, by decide⟩, lw_a2 139 (by decide +kernel) rfl, lw_a2 141 (by decide +kernel) rfl, lw_a0 1 (by decide +kernel) rfl, _, _, rfl⟩
theorem p0_bl_mayBeRegion : plainFor bl_mayBeRegion.1 = true ∧ bl_mayBeRegion.1 ≠ yL_law ∧ Cond.code bl_mayBeRegion.1 bl_mayBeRegion.2.1 bl_mayBeRegion.2.2.1 bl_mayBeRegion.2.2.2.1 ∈ lw_g ∧ Cond.initialized bl_mayBeRegion.1.cls ∈ lw_g ∧ (bl_mayBeRegion.1.cls ≠ "java/lang/invoke/MethodHandle" ∧ bl_mayBeRegion.1.cls ≠ "java/lang/invoke/VarHandle" ∧ (parseMethodDescriptor bl_mayBeRegion.1.desc).map (fun d => d.parameters.length) = some 2) := ⟨by decide +kernel, by decide +kernel, lw_a3 80 (by decide +kernel) rfl, lw_a1 8 (by decide +kernel) rfl, by decide +kernel, by decide +kernel, by decide +kernel⟩
theorem pk_to_region_226 : mj_KS to_region bl_mayBeRegion 226 2 := ⟨⟨p0_bl_mayBeRegion.1, p0_bl_mayBeRegion.2.1, p0_bl_mayBeRegion.2.2.1, p0_bl_mayBeRegion.2.2.2.1, p0_bl_mayBeRegion.2.2.2.2, by decide⟩, lw_a3 78 (by decide +kernel) rfl, lw_a3 79 (by decide +kernel) rfl⟩
theorem pk_to_region_229 : mj_KV to_region bl_takePattern 229 0 5 := ⟨⟨p0_bl_takePattern.1, p0_bl_takePattern.2.1, p0_bl_takePattern.2.2.1, p0_bl_takePattern.2.2.2.1, p0_bl_takePattern.2.2.2.2, by decide⟩, lw_a3 81 (by decide +kernel) rfl, lw_a3 82 (by decide +kernel) rfl, lw_a3 83 (by decide +kernel) rfl, _, _, rfl⟩
theorem p0_bl_filledCells : plainFor bl_filledCells.1 = true ∧ bl_filledCells.1 ≠ yL_law ∧ Cond.code bl_filledCells.1 bl_filledCells.2.1 bl_filledCells.2.2.1 bl_filledCells.2.2.2.1 ∈ lw_g ∧ Cond.initialized bl_filledCells.1.cls ∈ lw_g ∧ (bl_filledCells.1.cls ≠ "java/lang/invoke/MethodHandle" ∧ bl_filledCells.1.cls ≠ "java/lang/invoke/VarHandle" ∧ (parseMethodDescriptor bl_filledCells.1.desc).map (fun d => d.parameters.length) = some 0) := ⟨by decide +kernel, by decide +kernel, lw_a3 97 (by decide +kernel) rfl, lw_a1 8 (by decide +kernel) rfl, by decide +kernel, by decide +kernel, by decide +kernel⟩
theorem pk_to_region_233 : mj_KV to_region bl_filledCells 233 0 0 := ⟨⟨p0_bl_filledCells.1, p0_bl_filledCells.2.1, p0_bl_filledCells.2.2.1, p0_bl_filledCells.2.2.2.1, p0_bl_filledCells.2.2.2.2, by decide⟩, lw_a3 94 (by decide +kernel) rfl, lw_a3 95 (by decide +kernel) rfl, lw_a3 96 (by decide +kernel) rfl, _, _, rfl⟩
theorem p0_bl_isNothing : plainFor bl_isNothing.1 = true ∧ bl_isNothing.1 ≠ yL_law ∧ Cond.code bl_isNothing.1 bl_isNothing.2.1 bl_isNothing.2.2.1 bl_isNothing.2.2.2.1 ∈ lw_g ∧ Cond.initialized bl_isNothing.1.cls ∈ lw_g ∧ (bl_isNothing.1.cls ≠ "java/lang/invoke/MethodHandle" ∧ bl_isNothing.1.cls ≠ "java/lang/invoke/VarHandle" ∧ (parseMethodDescriptor bl_isNothing.1.desc).map (fun d => d.parameters.length) = some 0) := ⟨by decide +kernel, by decide +kernel, lw_a3 109 (by decide +kernel) rfl, lw_a1 8 (by decide +kernel) rfl, by decide +kernel, by decide +kernel, by decide +kernel⟩
theorem pk_to_turn_236 : mj_KV to_turn bl_isNothing 236 0 0 := ⟨⟨p0_bl_isNothing.1, p0_bl_isNothing.2.1, p0_bl_isNothing.2.2.1, p0_bl_isNothing.2.2.2.1, p0_bl_isNothing.2.2.2.2, by decide⟩, lw_a3 106 (by decide +kernel) rfl, lw_a3 107 (by decide +kernel) rfl, lw_a3 108 (by decide +kernel) rfl, _, _, rfl⟩
theorem pk_to_turn_114 : mj_KS to_turn to_isMove 114 1 := ⟨⟨p0_to_isMove.1, p0_to_isMove.2.1, p0_to_isMove.2.2.1, p0_to_isMove.2.2.2.1, p0_to_isMove.2.2.2.2, by decide⟩, lw_a2 89 (by decide +kernel) rfl, lw_a2 90 (by decide +kernel) rfl⟩
theorem p0_bl_takeMoved : plainFor bl_takeMoved.1 = true ∧ bl_takeMoved.1 ≠ yL_law ∧ Cond.code bl_takeMoved.1 bl_takeMoved.2.1 bl_takeMoved.2.2.1 bl_takeMoved.2.2.2.1 ∈ lw_g ∧ Cond.initialized bl_takeMoved.1.cls ∈ lw_g ∧ (bl_takeMoved.1.cls ≠ "java/lang/invoke/MethodHandle" ∧ bl_takeMoved.1.cls ≠ "java/lang/invoke/VarHandle" ∧ (parseMethodDescriptor bl_takeMoved.1.desc).map (fun d => d.parameters.length) = some 3) := ⟨by decide +kernel, by decide +kernel, lw_a3 113 (by decide +kernel) rfl, lw_a1 8 (by decide +kernel) rfl, by decide +kernel, by decide +kernel, by decide +kernel⟩
theorem pk_to_turn_239 : mj_KV to_turn bl_takeMoved 239 0 3 := ⟨⟨p0_bl_takeMoved.1, p0_bl_takeMoved.2.1, p0_bl_takeMoved.2.2.1, p0_bl_takeMoved.2.2.2.1, p0_bl_takeMoved.2.2.2.2, by decide⟩, lw_a3 110 (by decide +kernel) rfl, lw_a3 111 (by decide +kernel) rfl, lw_a3 112 (by decide +kernel) rfl, _, _, rfl⟩
theorem pk_to_paste_139 : mj_KV to_paste to_patternOf 139 10 1 := ⟨⟨p0_to_patternOf.1, p0_to_patternOf.2.1, p0_to_patternOf.2.2.1, p0_to_patternOf.2.2.2.1, p0_to_patternOf.2.2.2.2, by decide⟩, lw_a2 139 (by decide +kernel) rfl, lw_a2 141 (by decide +kernel) rfl, lw_a0 1 (by decide +kernel) rfl, _, _, rfl⟩
theorem pk_to_paste_236 : mj_KV to_paste bl_isNothing 236 0 0 := ⟨⟨p0_bl_isNothing.1, p0_bl_isNothing.2.1, p0_bl_isNothing.2.2.1, p0_bl_isNothing.2.2.2.1, p0_bl_isNothing.2.2.2.2, by decide⟩, lw_a3 106 (by decide +kernel) rfl, lw_a3 107 (by decide +kernel) rfl, lw_a3 108 (by decide +kernel) rfl, _, _, rfl⟩
theorem pf_to_243 : mj_F RX11 243 0 0 3 false .int := ⟨_, _, rfl, by decide, rfl, rfl, rfl, lw_a1 226 (by decide +kernel) rfl⟩
theorem p0_to_cellsThatCome : plainFor to_cellsThatCome.1 = true ∧ to_cellsThatCome.1 ≠ yL_law ∧ Cond.code to_cellsThatCome.1 to_cellsThatCome.2.1 to_cellsThatCome.2.2.1 to_cellsThatCome.2.2.2.1 ∈ lw_g ∧ Cond.initialized to_cellsThatCome.1.cls ∈ lw_g ∧ (to_cellsThatCome.1.cls ≠ "java/lang/invoke/MethodHandle" ∧ to_cellsThatCome.1.cls ≠ "java/lang/invoke/VarHandle" ∧ (parseMethodDescriptor to_cellsThatCome.1.desc).map (fun d => d.parameters.length) = some 4) := ⟨by decide +kernel, by decide +kernel, lw_a3 129 (by decide +kernel) rfl, lw_a1 1 (by decide +kernel) rfl, by decide +kernel, by decide +kernel, by decide +kernel⟩
theorem pk_to_paste_246 : mj_KV to_paste to_cellsThatCome 246 10 4 := ⟨⟨p0_to_cellsThatCome.1, p0_to_cellsThatCome.2.1, p0_to_cellsThatCome.2.2.1, p0_to_cellsThatCome.2.2.2.1, p0_to_cellsThatCome.2.2.2.2, by decide⟩, lw_a3 126 (by decide +kernel) rfl, lw_a3 128 (by decide +kernel) rfl, lw_a0 9 (by decide +kernel) rfl, _, _, rfl⟩
theorem pk_to_paste_149 : mj_KV to_paste rs_left 149 7 0 := ⟨⟨p0_rs_left.1, p0_rs_left.2.1, p0_rs_left.2.2.1, p0_rs_left.2.2.2.1, p0_rs_left.2.2.2.2, by decide⟩, lw_a2 146 (by decide +kernel) rfl, lw_a2 147 (by decide +kernel) rfl, lw_a2 148 (by decide +kernel) rfl, _, _, rfl⟩
theorem pk_to_paste_153 : mj_KV to_paste hi_remember 153 4 2 := ⟨⟨p0_hi_remember.1, p0_hi_remember.2.1, p0_hi_remember.2.2.1, p0_hi_remember.2.2.2.1, p0_hi_remember.2.2.2.2, by decide⟩, lw_a2 150 (by decide +kernel) rfl, lw_a2 151 (by decide +kernel) rfl, lw_a2 152 (by decide +kernel) rfl, _, _, rfl⟩
theorem p0_to_pasteRows : plainFor to_pasteRows.1 = true ∧ to_pasteRows.1 ≠ yL_law ∧ Cond.code to_pasteRows.1 to_pasteRows.2.1 to_pasteRows.2.2.1 to_pasteRows.2.2.2.1 ∈ lw_g ∧ Cond.initialized to_pasteRows.1.cls ∈ lw_g ∧ (to_pasteRows.1.cls ≠ "java/lang/invoke/MethodHandle" ∧ to_pasteRows.1.cls ≠ "java/lang/invoke/VarHandle" ∧ (parseMethodDescriptor to_pasteRows.1.desc).map (fun d => d.parameters.length) = some 3) := ⟨by decide +kernel, by decide +kernel, lw_a3 138 (by decide +kernel) rfl, lw_a1 1 (by decide +kernel) rfl, by decide +kernel, by decide +kernel, by decide +kernel⟩
theorem pk_to_paste_250 : mj_KV to_paste to_pasteRows 250 10 3 := ⟨⟨p0_to_pasteRows.1, p0_to_pasteRows.2.1, p0_to_pasteRows.2.2.1, p0_to_pasteRows.2.2.2.1, p0_to_pasteRows.2.2.2.2, by decide⟩, lw_a3 135 (by decide +kernel) rfl, lw_a3 137 (by decide +kernel) rfl, lw_a0 11 (by decide +kernel) rfl, _, _, rfl⟩
theorem pf_to_254 : mj_F RX11 254 0 1 3 false .int := ⟨_, _, rfl, by decide, rfl, rfl, rfl, lw_a1 230 (by decide +kernel) rfl⟩
theorem p0_to_comes : plainFor to_comes.1 = true ∧ to_comes.1 ≠ yL_law ∧ Cond.code to_comes.1 to_comes.2.1 to_comes.2.2.1 to_comes.2.2.2.1 ∈ lw_g ∧ Cond.initialized to_comes.1.cls ∈ lw_g ∧ (to_comes.1.cls ≠ "java/lang/invoke/MethodHandle" ∧ to_comes.1.cls ≠ "java/lang/invoke/VarHandle" ∧ (parseMethodDescriptor to_comes.1.desc).map (fun d => d.parameters.length) = some 5) := ⟨by decide +kernel, by decide +kernel, lw_a3 133 (by decide +kernel) rfl, lw_a1 1 (by decide +kernel) rfl, by decide +kernel, by decide +kernel, by decide +kernel⟩
theorem pk_to_cellsThatCome_257 : mj_KV to_cellsThatCome to_comes 257 10 5 := ⟨⟨p0_to_comes.1, p0_to_comes.2.1, p0_to_comes.2.2.1, p0_to_comes.2.2.2.1, p0_to_comes.2.2.2.2, by decide⟩, lw_a3 130 (by decide +kernel) rfl, lw_a3 132 (by decide +kernel) rfl, lw_a0 10 (by decide +kernel) rfl, _, _, rfl⟩
theorem pk_to_comes_261 : mj_KV to_comes bl_cellAt 261 0 2 := ⟨⟨p0_bl_cellAt.1, p0_bl_cellAt.2.1, p0_bl_cellAt.2.2.1, p0_bl_cellAt.2.2.2.1, p0_bl_cellAt.2.2.2.2, by decide⟩, lw_a3 134 (by decide +kernel) rfl, lw_a3 99 (by decide +kernel) rfl, lw_a3 100 (by decide +kernel) rfl, _, _, rfl⟩
theorem pk_to_comes_186 : mj_KV to_comes pa_cellAt 186 6 2 := ⟨⟨p0_pa_cellAt.1, p0_pa_cellAt.2.1, p0_pa_cellAt.2.2.1, p0_pa_cellAt.2.2.2.1, p0_pa_cellAt.2.2.2.2, by decide⟩, lw_a2 206 (by decide +kernel) rfl, lw_a2 207 (by decide +kernel) rfl, lw_a2 208 (by decide +kernel) rfl, _, _, rfl⟩
theorem pk_to_pasteRows_246 : mj_KV to_pasteRows to_cellsThatCome 246 10 4 := ⟨⟨p0_to_cellsThatCome.1, p0_to_cellsThatCome.2.1, p0_to_cellsThatCome.2.2.1, p0_to_cellsThatCome.2.2.2.1, p0_to_cellsThatCome.2.2.2.2, by decide⟩, lw_a3 126 (by decide +kernel) rfl, lw_a3 128 (by decide +kernel) rfl, lw_a0 9 (by decide +kernel) rfl, _, _, rfl⟩
theorem pk_to_pasteRows_193 : mj_KV to_pasteRows pa_renewRow 193 6 1 := ⟨⟨p0_pa_renewRow.1, p0_pa_renewRow.2.1, p0_pa_renewRow.2.2.1, p0_pa_renewRow.2.2.2.1, p0_pa_renewRow.2.2.2.2, by decide⟩, lw_a2 223 (by decide +kernel) rfl, lw_a2 224 (by decide +kernel) rfl, lw_a2 225 (by decide +kernel) rfl, _, _, rfl⟩
theorem pk_to_pasteRows_257 : mj_KV to_pasteRows to_comes 257 10 5 := ⟨⟨p0_to_comes.1, p0_to_comes.2.1, p0_to_comes.2.2.1, p0_to_comes.2.2.2.1, p0_to_comes.2.2.2.2, by decide⟩, lw_a3 130 (by decide +kernel) rfl, lw_a3 132 (by decide +kernel) rfl, lw_a0 10 (by decide +kernel) rfl, _, _, rfl⟩
theorem pk_to_pasteRows_261 : mj_KV to_pasteRows bl_cellAt 261 0 2 := ⟨⟨p0_bl_cellAt.1, p0_bl_cellAt.2.1, p0_bl_cellAt.2.2.1, p0_bl_cellAt.2.2.2.1, p0_bl_cellAt.2.2.2.2, by decide⟩, lw_a3 134 (by decide +kernel) rfl, lw_a3 99 (by decide +kernel) rfl, lw_a3 100 (by decide +kernel) rfl, _, _, rfl⟩
theorem pk_to_pasteRows_197 : mj_KV to_pasteRows rs_setCell 197 7 3 := ⟨⟨p0_rs_setCell.1, p0_rs_setCell.2.1, p0_rs_setCell.2.2.1, p0_rs_setCell.2.2.2.1, p0_rs_setCell.2.2.2.2, by decide⟩, lw_a2 237 (by decide +kernel) rfl, lw_a2 238 (by decide +kernel) rfl, lw_a2 239 (by decide +kernel) rfl, _, _, rfl⟩
theorem pf_to_263 : mj_F RX11 263 10 10 15 false .int := ⟨_, _, rfl, by decide, rfl, rfl, rfl, lw_a2 14 (by decide +kernel) rfl⟩
theorem p0_ru_mayBe : plainFor ru_mayBe.1 = true ∧ ru_mayBe.1 ≠ yL_law ∧ Cond.code ru_mayBe.1 ru_mayBe.2.1 ru_mayBe.2.2.1 ru_mayBe.2.2.2.1 ∈ lw_g ∧ Cond.initialized ru_mayBe.1.cls ∈ lw_g ∧ (ru_mayBe.1.cls ≠ "java/lang/invoke/MethodHandle" ∧ ru_mayBe.1.cls ≠ "java/lang/invoke/VarHandle" ∧ (parseMethodDescriptor ru_mayBe.1.desc).map (fun d => d.parameters.length) = some 2) := ⟨by decide +kernel, by decide +kernel, lw_a3 145 (by decide +kernel) rfl, lw_a1 15 (by decide +kernel) rfl, by decide +kernel, by decide +kernel, by decide +kernel⟩
theorem pk_to_rule_266 : mj_KS to_rule ru_mayBe 266 2 := ⟨⟨p0_ru_mayBe.1, p0_ru_mayBe.2.1, p0_ru_mayBe.2.2.1, p0_ru_mayBe.2.2.2.1, p0_ru_mayBe.2.2.2.2, by decide⟩, lw_a3 143 (by decide +kernel) rfl, lw_a3 144 (by decide +kernel) rfl⟩
theorem p0_ru_init : plainFor ru_init.1 = true ∧ ru_init.1 ≠ yL_law ∧ Cond.code ru_init.1 ru_init.2.1 ru_init.2.2.1 ru_init.2.2.2.1 ∈ lw_g ∧ Cond.initialized ru_init.1.cls ∈ lw_g ∧ (ru_init.1.cls ≠ "java/lang/invoke/MethodHandle" ∧ ru_init.1.cls ≠ "java/lang/invoke/VarHandle" ∧ (parseMethodDescriptor ru_init.1.desc).map (fun d => d.parameters.length) = some 2) := ⟨by decide +kernel, by decide +kernel, lw_a3 149 (by decide +kernel) rfl, lw_a1 15 (by decide +kernel) rfl, by decide +kernel, by decide +kernel, by decide +kernel⟩
theorem pk_to_rule_267 : mj_KI to_rule ru_init 267 2 := ⟨⟨p0_ru_init.1, p0_ru_init.2.1, p0_ru_init.2.2.1, p0_ru_init.2.2.2.1, p0_ru_init.2.2.2.2, by decide⟩, lw_a3 147 (by decide +kernel) rfl, lw_a3 148 (by decide +kernel) rfl, rfl, rfl⟩
theorem p0_to_ruleOf : plainFor to_ruleOf.1 = true ∧ to_ruleOf.1 ≠ yL_law ∧ Cond.code to_ruleOf.1 to_ruleOf.2.1 to_ruleOf.2.2.1 to_ruleOf.2.2.2.1 ∈ lw_g ∧ Cond.initialized to_ruleOf.1.cls ∈ lw_g ∧ (to_ruleOf.1.cls ≠ "java/lang/invoke/MethodHandle" ∧ to_ruleOf.1.cls ≠ "java/lang/invoke/VarHandle" ∧ (parseMethodDescriptor to_ruleOf.1.desc).map (fun d => d.parameters.length) = some 1) := ⟨by decide +kernel, by decide +kernel, lw_a3 177 (by decide +kernel) rfl, lw_a1 1 (by decide +kernel) rfl, by decide +kernel, by decide +kernel, by decide +kernel⟩
theorem pk_to_becomes_269 : mj_KV to_becomes to_ruleOf 269 10 1 := ⟨⟨p0_to_ruleOf.1, p0_to_ruleOf.2.1, p0_to_ruleOf.2.2.1, p0_to_ruleOf.2.2.2.1, p0_to_ruleOf.2.2.2.2, by decide⟩, lw_a3 174 (by decide +kernel) rfl, lw_a3 176 (by decide +kernel) rfl, lw_a0 12 (by decide +kernel) rfl, _, _, rfl⟩
theorem pk_to_becomes_110 : mj_KV to_becomes ki_has 110 5 1 := ⟨⟨p0_ki_has.1, p0_ki_has.2.1, p0_ki_has.2.2.1, p0_ki_has.2.2.2.1, p0_ki_has.2.2.2.2, by decide⟩, lw_a2 85 (by decide +kernel) rfl, lw_a2 86 (by decide +kernel) rfl, lw_a2 87 (by decide +kernel) rfl, _, _, rfl⟩
theorem pk_to_becomes_273 : mj_KV to_becomes ru_hasPlace 273 8 2 := ⟨⟨p0_ru_hasPlace.1, p0_ru_hasPlace.2.1, p0_ru_hasPlace.2.2.1, p0_ru_hasPlace.2.2.2.1, p0_ru_hasPlace.2.2.2.2, by decide⟩, lw_a3 178 (by decide +kernel) rfl, lw_a3 179 (by decide +kernel) rfl, lw_a3 180 (by decide +kernel) rfl, _, _, rfl⟩
theorem pk_to_becomes_180 : mj_KV to_becomes to_isKindInMove 180 10 2 := ⟨⟨p0_to_isKindInMove.1, p0_to_isKindInMove.2.1, p0_to_isKindInMove.2.2.1, p0_to_isKindInMove.2.2.2.1, p0_to_isKindInMove.2.2.2.2, by decide⟩, lw_a3 1 (by decide +kernel) rfl, lw_a3 3 (by decide +kernel) rfl, lw_a0 5 (by decide +kernel) rfl, _, _, rfl⟩
theorem pk_to_becomes_183 : mj_KV to_becomes ki_cellOf 183 5 2 := ⟨⟨p0_ki_cellOf.1, p0_ki_cellOf.2.1, p0_ki_cellOf.2.2.1, p0_ki_cellOf.2.2.2.1, p0_ki_cellOf.2.2.2.2, by decide⟩, lw_a3 5 (by decide +kernel) rfl, lw_a3 6 (by decide +kernel) rfl, lw_a3 7 (by decide +kernel) rfl, _, _, rfl⟩
theorem p0_ru_setCell : plainFor ru_setCell.1 = true ∧ ru_setCell.1 ≠ yL_law ∧ Cond.code ru_setCell.1 ru_setCell.2.1 ru_setCell.2.2.1 ru_setCell.2.2.2.1 ∈ lw_g ∧ Cond.initialized ru_setCell.1.cls ∈ lw_g ∧ (ru_setCell.1.cls ≠ "java/lang/invoke/MethodHandle" ∧ ru_setCell.1.cls ≠ "java/lang/invoke/VarHandle" ∧ (parseMethodDescriptor ru_setCell.1.desc).map (fun d => d.parameters.length) = some 4) := ⟨by decide +kernel, by decide +kernel, lw_a3 185 (by decide +kernel) rfl, lw_a1 15 (by decide +kernel) rfl, by decide +kernel, by decide +kernel, by decide +kernel⟩
theorem pk_to_becomes_276 : mj_KV to_becomes ru_setCell 276 8 4 := ⟨⟨p0_ru_setCell.1, p0_ru_setCell.2.1, p0_ru_setCell.2.2.1, p0_ru_setCell.2.2.2.1, p0_ru_setCell.2.2.2.2, by decide⟩, lw_a3 182 (by decide +kernel) rfl, lw_a3 183 (by decide +kernel) rfl, lw_a3 184 (by decide +kernel) rfl, _, _, rfl⟩
theorem pk_to_grow_139 : mj_KV to_grow to_patternOf 139 10 1 := ⟨⟨p0_to_patternOf.1, p0_to_patternOf.2.1, p0_to_patternOf.2.2.1, p0_to_patternOf.2.2.2.1, p0_to_patternOf.2.2.2.2, by decide⟩, lw_a2 139 (by decide +kernel) rfl, lw_a2 141 (by decide +kernel) rfl, lw_a0 1 (by decide +kernel) rfl, _, _, rfl⟩
theorem pk_to_grow_269 : mj_KV to_grow to_ruleOf 269 10 1 := ⟨⟨p0_to_ruleOf.1, p0_to_ruleOf.2.1, p0_to_ruleOf.2.2.1, p0_to_ruleOf.2.2.2.1, p0_to_ruleOf.2.2.2.2, by decide⟩, lw_a3 174 (by decide +kernel) rfl, lw_a3 176 (by decide +kernel) rfl, lw_a0 12 (by decide +kernel) rfl, _, _, rfl⟩
theorem pf_to_279 : mj_F RX11 279 8 0 5 true .int := ⟨_, _, rfl, by decide, rfl, rfl, rfl, lw_a3 153 (by decide +kernel) rfl⟩
theorem p0_to_power : plainFor to_power.1 = true ∧ to_power.1 ≠ yL_law ∧ Cond.code to_power.1 to_power.2.1 to_power.2.2.1 to_power.2.2.2.1 ∈ lw_g ∧ Cond.initialized to_power.1.cls ∈ lw_g ∧ (to_power.1.cls ≠ "java/lang/invoke/MethodHandle" ∧ to_power.1.cls ≠ "java/lang/invoke/VarHandle" ∧ (parseMethodDescriptor to_power.1.desc).map (fun d => d.parameters.length) = some 2) := ⟨by decide +kernel, by decide +kernel, lw_a3 197 (by decide +kernel) rfl, lw_a1 1 (by decide +kernel) rfl, by decide +kernel, by decide +kernel, by decide +kernel⟩
theorem pk_to_grow_280 : mj_KS to_grow to_power 280 2 := ⟨⟨p0_to_power.1, p0_to_power.2.1, p0_to_power.2.2.1, p0_to_power.2.2.2.1, p0_to_power.2.2.2.2, by decide⟩, lw_a3 195 (by decide +kernel) rfl, lw_a3 196 (by decide +kernel) rfl⟩
theorem pf_to_283 : mj_F RX11 283 8 1 5 true .int := ⟨_, _, rfl, by decide, rfl, rfl, rfl, lw_a3 155 (by decide +kernel) rfl⟩
theorem pk_to_grow_149 : mj_KV to_grow rs_left 149 7 0 := ⟨⟨p0_rs_left.1, p0_rs_left.2.1, p0_rs_left.2.2.1, p0_rs_left.2.2.2.1, p0_rs_left.2.2.2.2, by decide⟩, lw_a2 146 (by decide +kernel) rfl, lw_a2 147 (by decide +kernel) rfl, lw_a2 148 (by decide +kernel) rfl, _, _, rfl⟩
theorem p0_pa_mayGrow : plainFor pa_mayGrow.1 = true ∧ pa_mayGrow.1 ≠ yL_law ∧ Cond.code pa_mayGrow.1 pa_mayGrow.2.1 pa_mayGrow.2.2.1 pa_mayGrow.2.2.2.1 ∈ lw_g ∧ Cond.initialized pa_mayGrow.1.cls ∈ lw_g ∧ (pa_mayGrow.1.cls ≠ "java/lang/invoke/MethodHandle" ∧ pa_mayGrow.1.cls ≠ "java/lang/invoke/VarHandle" ∧ (parseMethodDescriptor pa_mayGrow.1.desc).map (fun d => d.parameters.length) = some 2) := ⟨by decide +kernel, by decide +kernel, lw_a3 202 (by decide +kernel) rfl, lw_a1 11 (by decide +kernel) rfl, by decide +kernel, by decide +kernel, by decide +kernel⟩
theorem pk_to_grow_284 : mj_KV to_grow pa_mayGrow 284 6 2 := ⟨⟨p0_pa_mayGrow.1, p0_pa_mayGrow.2.1, p0_pa_mayGrow.2.2.1, p0_pa_mayGrow.2.2.2.1, p0_pa_mayGrow.2.2.2.2, by decide⟩, lw_a3 199 (by decide +kernel) rfl, lw_a3 200 (by decide +kernel) rfl, lw_a3 201 (by decide +kernel) rfl, _, _, rfl⟩
theorem p0_to_growsStraight : plainFor to_growsStraight.1 = true ∧ to_growsStraight.1 ≠ yL_law ∧ Cond.code to_growsStraight.1 to_growsStraight.2.1 to_growsStraight.2.2.1 to_growsStraight.2.2.2.1 ∈ lw_g ∧ Cond.initialized to_growsStraight.1.cls ∈ lw_g ∧ (to_growsStraight.1.cls ≠ "java/lang/invoke/MethodHandle" ∧ to_growsStraight.1.cls ≠ "java/lang/invoke/VarHandle" ∧ (parseMethodDescriptor to_growsStraight.1.desc).map (fun d => d.parameters.length) = some 3) := ⟨by decide +kernel, by decide +kernel, lw_a3 209 (by decide +kernel) rfl, lw_a1 1 (by decide +kernel) rfl, by decide +kernel, by decide +kernel, by decide +kernel⟩
theorem pk_to_grow_287 : mj_KV to_grow to_growsStraight 287 10 3 := ⟨⟨p0_to_growsStraight.1, p0_to_growsStraight.2.1, p0_to_growsStraight.2.2.1, p0_to_growsStraight.2.2.2.1, p0_to_growsStraight.2.2.2.2, by decide⟩, lw_a3 206 (by decide +kernel) rfl, lw_a3 208 (by decide +kernel) rfl, lw_a0 14 (by decide +kernel) rfl, _, _, rfl⟩
theorem pk_to_grow_132 : mj_KI to_grow pa_init 132 1 := ⟨⟨p0_pa_init.1, p0_pa_init.2.1, p0_pa_init.2.2.1, p0_pa_init.2.2.2.1, p0_pa_init.2.2.2.2, by decide⟩, lw_a2 112 (by decide +kernel) rfl, lw_a2 113 (by decide +kernel) rfl, rfl, rfl⟩
theorem p0_to_grownRow : plainFor to_grownRow.1 = true ∧ to_grownRow.1 ≠ yL_law ∧ Cond.code to_grownRow.1 to_grownRow.2.1 to_grownRow.2.2.1 to_grownRow.2.2.2.1 ∈ lw_g ∧ Cond.initialized to_grownRow.1.cls ∈ lw_g ∧ (to_grownRow.1.cls ≠ "java/lang/invoke/MethodHandle" ∧ to_grownRow.1.cls ≠ "java/lang/invoke/VarHandle" ∧ (parseMethodDescriptor to_grownRow.1.desc).map (fun d => d.parameters.length) = some 4) := ⟨by decide +kernel, by decide +kernel, lw_a4 4 (by decide +kernel) rfl, lw_a1 1 (by decide +kernel) rfl, by decide +kernel, by decide +kernel, by decide +kernel⟩
theorem pk_to_grow_291 : mj_KV to_grow to_grownRow 291 10 4 := ⟨⟨p0_to_grownRow.1, p0_to_grownRow.2.1, p0_to_grownRow.2.2.1, p0_to_grownRow.2.2.2.1, p0_to_grownRow.2.2.2.2, by decide⟩, lw_a4 1 (by decide +kernel) rfl, lw_a4 3 (by decide +kernel) rfl, lw_a0 19 (by decide +kernel) rfl, _, _, rfl⟩
theorem pk_to_grow_160 : mj_KV to_grow pa_insertId 160 6 2 := ⟨⟨p0_pa_insertId.1, p0_pa_insertId.2.1, p0_pa_insertId.2.2.1, p0_pa_insertId.2.2.2.1, p0_pa_insertId.2.2.2.2, by decide⟩, lw_a2 172 (by decide +kernel) rfl, lw_a2 173 (by decide +kernel) rfl, lw_a2 174 (by decide +kernel) rfl, _, _, rfl⟩
theorem pk_to_grow_135 : mj_KV to_grow to_keep 135 10 1 := ⟨⟨p0_to_keep.1, p0_to_keep.2.1, p0_to_keep.2.2.1, p0_to_keep.2.2.2.1, p0_to_keep.2.2.2.2, by decide⟩, lw_a2 131 (by decide +kernel) rfl, lw_a2 133 (by decide +kernel) rfl, lw_a0 0 (by decide +kernel) rfl, _, _, rfl⟩
theorem pk_to_power_295 : mj_KS to_power jd_max 295 2 := ⟨⟨p0_jd_max.1, p0_jd_max.2.1, p0_jd_max.2.2.1, p0_jd_max.2.2.2.1, p0_jd_max.2.2.2.2, by decide⟩, lw_a3 198 (by decide +kernel) rfl, lw_a1 222 (by decide +kernel) rfl⟩
theorem pk_to_growsStraight_280 : mj_KS to_growsStraight to_power 280 2 := ⟨⟨p0_to_power.1, p0_to_power.2.1, p0_to_power.2.2.1, p0_to_power.2.2.2.1, p0_to_power.2.2.2.2, by decide⟩, lw_a3 195 (by decide +kernel) rfl, lw_a3 196 (by decide +kernel) rfl⟩
theorem pk_to_growsStraight_215 : mj_KV to_growsStraight pa_offsetAt 215 6 1 := ⟨⟨p0_pa_offsetAt.1, p0_pa_offsetAt.2.1, p0_pa_offsetAt.2.2.1, p0_pa_offsetAt.2.2.2.1, p0_pa_offsetAt.2.2.2.2, by decide⟩, lw_a3 57 (by decide +kernel) rfl, lw_a3 58 (by decide +kernel) rfl, lw_a3 59 (by decide +kernel) rfl, _, _, rfl⟩
theorem pk_to_growsStraight_212 : mj_KV to_growsStraight pa_lengthAt 212 6 1 := ⟨⟨p0_pa_lengthAt.1, p0_pa_lengthAt.2.1, p0_pa_lengthAt.2.2.1, p0_pa_lengthAt.2.2.2.1, p0_pa_lengthAt.2.2.2.2, by decide⟩, lw_a3 49 (by decide +kernel) rfl, lw_a3 50 (by decide +kernel) rfl, lw_a3 51 (by decide +kernel) rfl, _, _, rfl⟩
theorem p0_to_grownCell : plainFor to_grownCell.1 = true ∧ to_grownCell.1 ≠ yL_law ∧ Cond.code to_grownCell.1 to_grownCell.2.1 to_grownCell.2.2.1 to_grownCell.2.2.2.1 ∈ lw_g ∧ Cond.initialized to_grownCell.1.cls ∈ lw_g ∧ (to_grownCell.1.cls ≠ "java/lang/invoke/MethodHandle" ∧ to_grownCell.1.cls ≠ "java/lang/invoke/VarHandle" ∧ (parseMethodDescriptor to_grownCell.1.desc).map (fun d => d.parameters.length) = some 5) := ⟨by decide +kernel, by decide +kernel, lw_a3 213 (by decide +kernel) rfl, lw_a1 1 (by decide +kernel) rfl, by decide +kernel, by decide +kernel, by decide +kernel⟩
theorem pk_to_growsStraight_300 : mj_KV to_growsStraight to_grownCell 300 10 5 := ⟨⟨p0_to_grownCell.1, p0_to_grownCell.2.1, p0_to_grownCell.2.2.1, p0_to_grownCell.2.2.2.1, p0_to_grownCell.2.2.2.2, by decide⟩, lw_a3 210 (by decide +kernel) rfl, lw_a3 212 (by decide +kernel) rfl, lw_a0 15 (by decide +kernel) rfl, _, _, rfl⟩
theorem pk_to_grownRow_280 : mj_KS to_grownRow to_power 280 2 := ⟨⟨p0_to_power.1, p0_to_power.2.1, p0_to_power.2.2.1, p0_to_power.2.2.2.1, p0_to_power.2.2.2.2, by decide⟩, lw_a3 195 (by decide +kernel) rfl, lw_a3 196 (by decide +kernel) rfl⟩
theorem pk_to_grownRow_215 : mj_KV to_grownRow pa_offsetAt 215 6 1 := ⟨⟨p0_pa_offsetAt.1, p0_pa_offsetAt.2.1, p0_pa_offsetAt.2.2.1, p0_pa_offsetAt.2.2.2.1, p0_pa_offsetAt.2.2.2.2, by decide⟩, lw_a3 57 (by decide +kernel) rfl, lw_a3 58 (by decide +kernel) rfl, lw_a3 59 (by decide +kernel) rfl, _, _, rfl⟩
theorem pk_to_grownRow_212 : mj_KV to_grownRow pa_lengthAt 212 6 1 := ⟨⟨p0_pa_lengthAt.1, p0_pa_lengthAt.2.1, p0_pa_lengthAt.2.2.1, p0_pa_lengthAt.2.2.2.1, p0_pa_lengthAt.2.2.2.2, by decide⟩, lw_a3 49 (by decide +kernel) rfl, lw_a3 50 (by decide +kernel) rfl, lw_a3 51 (by decide +kernel) rfl, _, _, rfl⟩
theorem pk_to_grownRow_157 : mj_KV to_grownRow rs_make 157 7 2 := ⟨⟨p0_rs_make.1, p0_rs_make.2.1, p0_rs_make.2.2.1, p0_rs_make.2.2.2.1, p0_rs_make.2.2.2.2, by decide⟩, lw_a2 160 (by decide +kernel) rfl, lw_a2 161 (by decide +kernel) rfl, lw_a2 162 (by decide +kernel) rfl, _, _, rfl⟩
theorem pk_to_grownRow_300 : mj_KV to_grownRow to_grownCell 300 10 5 := ⟨⟨p0_to_grownCell.1, p0_to_grownCell.2.1, p0_to_grownCell.2.2.1, p0_to_grownCell.2.2.2.1, p0_to_grownCell.2.2.2.2, by decide⟩, lw_a3 210 (by decide +kernel) rfl, lw_a3 212 (by decide +kernel) rfl, lw_a0 15 (by decide +kernel) rfl, _, _, rfl⟩
theorem pk_to_grownRow_197 : mj_KV to_grownRow rs_setCell 197 7 3 := ⟨⟨p0_rs_setCell.1, p0_rs_setCell.2.1, p0_rs_setCell.2.2.1, p0_rs_setCell.2.2.2.1, p0_rs_setCell.2.2.2.2, by decide⟩, lw_a2 237 (by decide +kernel) rfl, lw_a2 238 (by decide +kernel) rfl, lw_a2 239 (by decide +kernel) rfl, _, _, rfl⟩
theorem pk_to_grownCell_280 : mj_KS to_grownCell to_power 280 2 := ⟨⟨p0_to_power.1, p0_to_power.2.1, p0_to_power.2.2.1, p0_to_power.2.2.2.1, p0_to_power.2.2.2.2, by decide⟩, lw_a3 195 (by decide +kernel) rfl, lw_a3 196 (by decide +kernel) rfl⟩
theorem p0_jd_floorDiv : plainFor jd_floorDiv.1 = true ∧ jd_floorDiv.1 ≠ yL_law ∧ Cond.code jd_floorDiv.1 jd_floorDiv.2.1 jd_floorDiv.2.2.1 jd_floorDiv.2.2.2.1 ∈ lw_g ∧ Cond.initialized jd_floorDiv.1.cls ∈ lw_g ∧ (jd_floorDiv.1.cls ≠ "java/lang/invoke/MethodHandle" ∧ jd_floorDiv.1.cls ≠ "java/lang/invoke/VarHandle" ∧ (parseMethodDescriptor jd_floorDiv.1.desc).map (fun d => d.parameters.length) = some 2) := ⟨by decide +kernel, by decide +kernel, lw_a3 216 (by decide +kernel) rfl, lw_a1 9 (by decide +kernel) rfl, by decide +kernel, by decide +kernel, by decide +kernel⟩
theorem pk_to_grownCell_304 : mj_KS to_grownCell jd_floorDiv 304 2 := ⟨⟨p0_jd_floorDiv.1, p0_jd_floorDiv.2.1, p0_jd_floorDiv.2.2.1, p0_jd_floorDiv.2.2.2.1, p0_jd_floorDiv.2.2.2.2, by decide⟩, lw_a3 214 (by decide +kernel) rfl, lw_a3 215 (by decide +kernel) rfl⟩
theorem pk_to_grownCell_186 : mj_KV to_grownCell pa_cellAt 186 6 2 := ⟨⟨p0_pa_cellAt.1, p0_pa_cellAt.2.1, p0_pa_cellAt.2.2.1, p0_pa_cellAt.2.2.2.1, p0_pa_cellAt.2.2.2.2, by decide⟩, lw_a2 206 (by decide +kernel) rfl, lw_a2 207 (by decide +kernel) rfl, lw_a2 208 (by decide +kernel) rfl, _, _, rfl⟩
theorem p0_jd_floorMod : plainFor jd_floorMod.1 = true ∧ jd_floorMod.1 ≠ yL_law ∧ Cond.code jd_floorMod.1 jd_floorMod.2.1 jd_floorMod.2.2.1 jd_floorMod.2.2.2.1 ∈ lw_g ∧ Cond.initialized jd_floorMod.1.cls ∈ lw_g ∧ (jd_floorMod.1.cls ≠ "java/lang/invoke/MethodHandle" ∧ jd_floorMod.1.cls ≠ "java/lang/invoke/VarHandle" ∧ (parseMethodDescriptor jd_floorMod.1.desc).map (fun d => d.parameters.length) = some 2) := ⟨by decide +kernel, by decide +kernel, lw_a3 219 (by decide +kernel) rfl, lw_a1 9 (by decide +kernel) rfl, by decide +kernel, by decide +kernel, by decide +kernel⟩
theorem pk_to_grownCell_307 : mj_KS to_grownCell jd_floorMod 307 2 := ⟨⟨p0_jd_floorMod.1, p0_jd_floorMod.2.1, p0_jd_floorMod.2.2.1, p0_jd_floorMod.2.2.2.1, p0_jd_floorMod.2.2.2.2, by decide⟩, lw_a3 217 (by decide +kernel) rfl, lw_a3 218 (by decide +kernel) rfl⟩
theorem p0_ru_childOf : plainFor ru_childOf.1 = true ∧ ru_childOf.1 ≠ yL_law ∧ Cond.code ru_childOf.1 ru_childOf.2.1 ru_childOf.2.2.1 ru_childOf.2.2.2.1 ∈ lw_g ∧ Cond.initialized ru_childOf.1.cls ∈ lw_g ∧ (ru_childOf.1.cls ≠ "java/lang/invoke/MethodHandle" ∧ ru_childOf.1.cls ≠ "java/lang/invoke/VarHandle" ∧ (parseMethodDescriptor ru_childOf.1.desc).map (fun d => d.parameters.length) = some 4) := ⟨by decide +kernel, by decide +kernel, lw_a3 223 (by decide +kernel) rfl, lw_a1 15 (by decide +kernel) rfl, by decide +kernel, by decide +kernel, by decide +kernel⟩
theorem pk_to_grownCell_310 : mj_KV to_grownCell ru_childOf 310 8 4 := ⟨⟨p0_ru_childOf.1, p0_ru_childOf.2.1, p0_ru_childOf.2.2.1, p0_ru_childOf.2.2.2.1, p0_ru_childOf.2.2.2.2, by decide⟩, lw_a3 220 (by decide +kernel) rfl, lw_a3 221 (by decide +kernel) rfl, lw_a3 222 (by decide +kernel) rfl, _, _, rfl⟩
theorem pk_to_foretold_269 : mj_KV to_foretold to_ruleOf 269 10 1 := ⟨⟨p0_to_ruleOf.1, p0_to_ruleOf.2.1, p0_to_ruleOf.2.2.1, p0_to_ruleOf.2.2.2.1, p0_to_ruleOf.2.2.2.2, by decide⟩, lw_a3 174 (by decide +kernel) rfl, lw_a3 176 (by decide +kernel) rfl, lw_a0 12 (by decide +kernel) rfl, _, _, rfl⟩
theorem pk_to_foretold_110 : mj_KV to_foretold ki_has 110 5 1 := ⟨⟨p0_ki_has.1, p0_ki_has.2.1, p0_ki_has.2.2.1, p0_ki_has.2.2.2.1, p0_ki_has.2.2.2.2, by decide⟩, lw_a2 85 (by decide +kernel) rfl, lw_a2 86 (by decide +kernel) rfl, lw_a2 87 (by decide +kernel) rfl, _, _, rfl⟩
theorem pi_to_314 : Cond.constantLong RX11 314 (-1) ∈ lw_g := lw_a4 9 (by decide +kernel) rfl
theorem p0_ru_foretell : plainFor ru_foretell.1 = true ∧ ru_foretell.1 ≠ yL_law ∧ Cond.code ru_foretell.1 ru_foretell.2.1 ru_foretell.2.2.1 ru_foretell.2.2.2.1 ∈ lw_g ∧ Cond.initialized ru_foretell.1.cls ∈ lw_g ∧ (ru_foretell.1.cls ≠ "java/lang/invoke/MethodHandle" ∧ ru_foretell.1.cls ≠ "java/lang/invoke/VarHandle" ∧ (parseMethodDescriptor ru_foretell.1.desc).map (fun d => d.parameters.length) = some 3) := ⟨by decide +kernel, by decide +kernel, lw_a4 13 (by decide +kernel) rfl, lw_a1 15 (by decide +kernel) rfl, by decide +kernel, by decide +kernel, by decide +kernel⟩
theorem pk_to_foretold_316 : mj_KV to_foretold ru_foretell 316 8 3 := ⟨⟨p0_ru_foretell.1, p0_ru_foretell.2.1, p0_ru_foretell.2.2.1, p0_ru_foretell.2.2.2.1, p0_ru_foretell.2.2.2.2, by decide⟩, lw_a4 10 (by decide +kernel) rfl, lw_a4 11 (by decide +kernel) rfl, lw_a4 12 (by decide +kernel) rfl, _, _, rfl⟩
theorem pk_to_count_139 : mj_KV to_count to_patternOf 139 10 1 := ⟨⟨p0_to_patternOf.1, p0_to_patternOf.2.1, p0_to_patternOf.2.2.1, p0_to_patternOf.2.2.2.1, p0_to_patternOf.2.2.2.2, by decide⟩, lw_a2 139 (by decide +kernel) rfl, lw_a2 141 (by decide +kernel) rfl, lw_a0 1 (by decide +kernel) rfl, _, _, rfl⟩
theorem pk_to_count_110 : mj_KV to_count ki_has 110 5 1 := ⟨⟨p0_ki_has.1, p0_ki_has.2.1, p0_ki_has.2.2.1, p0_ki_has.2.2.2.1, p0_ki_has.2.2.2.2, by decide⟩, lw_a2 85 (by decide +kernel) rfl, lw_a2 86 (by decide +kernel) rfl, lw_a2 87 (by decide +kernel) rfl, _, _, rfl⟩
theorem pk_to_count_215 : mj_KV to_count pa_offsetAt 215 6 1 := ⟨⟨p0_pa_offsetAt.1, p0_pa_offsetAt.2.1, p0_pa_offsetAt.2.2.1, p0_pa_offsetAt.2.2.2.1, p0_pa_offsetAt.2.2.2.2, by decide⟩, lw_a3 57 (by decide +kernel) rfl, lw_a3 58 (by decide +kernel) rfl, lw_a3 59 (by decide +kernel) rfl, _, _, rfl⟩
theorem pk_to_count_212 : mj_KV to_count pa_lengthAt 212 6 1 := ⟨⟨p0_pa_lengthAt.1, p0_pa_lengthAt.2.1, p0_pa_lengthAt.2.2.1, p0_pa_lengthAt.2.2.2.1, p0_pa_lengthAt.2.2.2.2, by decide⟩, lw_a3 49 (by decide +kernel) rfl, lw_a3 50 (by decide +kernel) rfl, lw_a3 51 (by decide +kernel) rfl, _, _, rfl⟩
theorem pk_to_count_186 : mj_KV to_count pa_cellAt 186 6 2 := ⟨⟨p0_pa_cellAt.1, p0_pa_cellAt.2.1, p0_pa_cellAt.2.2.1, p0_pa_cellAt.2.2.2.1, p0_pa_cellAt.2.2.2.2, by decide⟩, lw_a2 206 (by decide +kernel) rfl, lw_a2 207 (by decide +kernel) rfl, lw_a2 208 (by decide +kernel) rfl, _, _, rfl⟩
theorem pk_to_count_200 : mj_KS to_count ce_kindOf 200 1 := ⟨⟨p0_ce_kindOf.1, p0_ce_kindOf.2.1, p0_ce_kindOf.2.2.1, p0_ce_kindOf.2.2.2.1, p0_ce_kindOf.2.2.2.2, by decide⟩, lw_a3 32 (by decide +kernel) rfl, lw_a3 22 (by decide +kernel) rfl⟩
theorem pk_to_fits_139 : mj_KV to_fits to_patternOf 139 10 1 := ⟨⟨p0_to_patternOf.1, p0_to_patternOf.2.1, p0_to_patternOf.2.2.1, p0_to_patternOf.2.2.2.1, p0_to_patternOf.2.2.2.2, by decide⟩, lw_a2 139 (by decide +kernel) rfl, lw_a2 141 (by decide +kernel) rfl, lw_a0 1 (by decide +kernel) rfl, _, _, rfl⟩
theorem pk_to_fits_215 : mj_KV to_fits pa_offsetAt 215 6 1 := ⟨⟨p0_pa_offsetAt.1, p0_pa_offsetAt.2.1, p0_pa_offsetAt.2.2.1, p0_pa_offsetAt.2.2.2.1, p0_pa_offsetAt.2.2.2.2, by decide⟩, lw_a3 57 (by decide +kernel) rfl, lw_a3 58 (by decide +kernel) rfl, lw_a3 59 (by decide +kernel) rfl, _, _, rfl⟩
theorem pk_to_fits_212 : mj_KV to_fits pa_lengthAt 212 6 1 := ⟨⟨p0_pa_lengthAt.1, p0_pa_lengthAt.2.1, p0_pa_lengthAt.2.2.1, p0_pa_lengthAt.2.2.2.1, p0_pa_lengthAt.2.2.2.2, by decide⟩, lw_a3 49 (by decide +kernel) rfl, lw_a3 50 (by decide +kernel) rfl, lw_a3 51 (by decide +kernel) rfl, _, _, rfl⟩
theorem pk_to_fits_186 : mj_KV to_fits pa_cellAt 186 6 2 := ⟨⟨p0_pa_cellAt.1, p0_pa_cellAt.2.1, p0_pa_cellAt.2.2.1, p0_pa_cellAt.2.2.2.1, p0_pa_cellAt.2.2.2.2, by decide⟩, lw_a2 206 (by decide +kernel) rfl, lw_a2 207 (by decide +kernel) rfl, lw_a2 208 (by decide +kernel) rfl, _, _, rfl⟩
theorem p0_ki_meet : plainFor ki_meet.1 = true ∧ ki_meet.1 ≠ yL_law ∧ Cond.code ki_meet.1 ki_meet.2.1 ki_meet.2.2.1 ki_meet.2.2.2.1 ∈ lw_g ∧ Cond.initialized ki_meet.1.cls ∈ lw_g ∧ (ki_meet.1.cls ≠ "java/lang/invoke/MethodHandle" ∧ ki_meet.1.cls ≠ "java/lang/invoke/VarHandle" ∧ (parseMethodDescriptor ki_meet.1.desc).map (fun d => d.parameters.length) = some 3) := ⟨by decide +kernel, by decide +kernel, lw_a4 38 (by decide +kernel) rfl, lw_a1 2 (by decide +kernel) rfl, by decide +kernel, by decide +kernel, by decide +kernel⟩
theorem pk_to_fits_320 : mj_KV to_fits ki_meet 320 5 3 := ⟨⟨p0_ki_meet.1, p0_ki_meet.2.1, p0_ki_meet.2.2.1, p0_ki_meet.2.2.2.1, p0_ki_meet.2.2.2.2, by decide⟩, lw_a4 35 (by decide +kernel) rfl, lw_a4 36 (by decide +kernel) rfl, lw_a4 37 (by decide +kernel) rfl, _, _, rfl⟩
theorem pk_to_period_139 : mj_KV to_period to_patternOf 139 10 1 := ⟨⟨p0_to_patternOf.1, p0_to_patternOf.2.1, p0_to_patternOf.2.2.1, p0_to_patternOf.2.2.2.1, p0_to_patternOf.2.2.2.2, by decide⟩, lw_a2 139 (by decide +kernel) rfl, lw_a2 141 (by decide +kernel) rfl, lw_a0 1 (by decide +kernel) rfl, _, _, rfl⟩
theorem p0_to_repeats : plainFor to_repeats.1 = true ∧ to_repeats.1 ≠ yL_law ∧ Cond.code to_repeats.1 to_repeats.2.1 to_repeats.2.2.1 to_repeats.2.2.2.1 ∈ lw_g ∧ Cond.initialized to_repeats.1.cls ∈ lw_g ∧ (to_repeats.1.cls ≠ "java/lang/invoke/MethodHandle" ∧ to_repeats.1.cls ≠ "java/lang/invoke/VarHandle" ∧ (parseMethodDescriptor to_repeats.1.desc).map (fun d => d.parameters.length) = some 3) := ⟨by decide +kernel, by decide +kernel, lw_a4 46 (by decide +kernel) rfl, lw_a1 1 (by decide +kernel) rfl, by decide +kernel, by decide +kernel, by decide +kernel⟩
theorem pk_to_period_323 : mj_KS to_period to_repeats 323 3 := ⟨⟨p0_to_repeats.1, p0_to_repeats.2.1, p0_to_repeats.2.2.1, p0_to_repeats.2.2.2.1, p0_to_repeats.2.2.2.2, by decide⟩, lw_a4 44 (by decide +kernel) rfl, lw_a4 45 (by decide +kernel) rfl⟩
theorem pk_to_repeats_215 : mj_KV to_repeats pa_offsetAt 215 6 1 := ⟨⟨p0_pa_offsetAt.1, p0_pa_offsetAt.2.1, p0_pa_offsetAt.2.2.1, p0_pa_offsetAt.2.2.2.1, p0_pa_offsetAt.2.2.2.2, by decide⟩, lw_a3 57 (by decide +kernel) rfl, lw_a3 58 (by decide +kernel) rfl, lw_a3 59 (by decide +kernel) rfl, _, _, rfl⟩
theorem pk_to_repeats_212 : mj_KV to_repeats pa_lengthAt 212 6 1 := ⟨⟨p0_pa_lengthAt.1, p0_pa_lengthAt.2.1, p0_pa_lengthAt.2.2.1, p0_pa_lengthAt.2.2.2.1, p0_pa_lengthAt.2.2.2.2, by decide⟩, lw_a3 49 (by decide +kernel) rfl, lw_a3 50 (by decide +kernel) rfl, lw_a3 51 (by decide +kernel) rfl, _, _, rfl⟩
theorem pk_to_repeats_186 : mj_KV to_repeats pa_cellAt 186 6 2 := ⟨⟨p0_pa_cellAt.1, p0_pa_cellAt.2.1, p0_pa_cellAt.2.2.1, p0_pa_cellAt.2.2.2.1, p0_pa_cellAt.2.2.2.2, by decide⟩, lw_a2 206 (by decide +kernel) rfl, lw_a2 207 (by decide +kernel) rfl, lw_a2 208 (by decide +kernel) rfl, _, _, rfl⟩
theorem pk_to_kept_139 : mj_KV to_kept to_patternOf 139 10 1 := ⟨⟨p0_to_patternOf.1, p0_to_patternOf.2.1, p0_to_patternOf.2.2.1, p0_to_patternOf.2.2.2.1, p0_to_patternOf.2.2.2.2, by decide⟩, lw_a2 139 (by decide +kernel) rfl, lw_a2 141 (by decide +kernel) rfl, lw_a0 1 (by decide +kernel) rfl, _, _, rfl⟩
theorem p0_pa_isFull : plainFor pa_isFull.1 = true ∧ pa_isFull.1 ≠ yL_law ∧ Cond.code pa_isFull.1 pa_isFull.2.1 pa_isFull.2.2.1 pa_isFull.2.2.2.1 ∈ lw_g ∧ Cond.initialized pa_isFull.1.cls ∈ lw_g ∧ (pa_isFull.1.cls ≠ "java/lang/invoke/MethodHandle" ∧ pa_isFull.1.cls ≠ "java/lang/invoke/VarHandle" ∧ (parseMethodDescriptor pa_isFull.1.desc).map (fun d => d.parameters.length) = some 0) := ⟨by decide +kernel, by decide +kernel, lw_a4 54 (by decide +kernel) rfl, lw_a1 11 (by decide +kernel) rfl, by decide +kernel, by decide +kernel, by decide +kernel⟩
theorem pk_to_kept_327 : mj_KV to_kept pa_isFull 327 6 0 := ⟨⟨p0_pa_isFull.1, p0_pa_isFull.2.1, p0_pa_isFull.2.2.1, p0_pa_isFull.2.2.2.1, p0_pa_isFull.2.2.2.2, by decide⟩, lw_a4 51 (by decide +kernel) rfl, lw_a4 52 (by decide +kernel) rfl, lw_a4 53 (by decide +kernel) rfl, _, _, rfl⟩
theorem p0_bl_takeWhole : plainFor bl_takeWhole.1 = true ∧ bl_takeWhole.1 ≠ yL_law ∧ Cond.code bl_takeWhole.1 bl_takeWhole.2.1 bl_takeWhole.2.2.1 bl_takeWhole.2.2.2.1 ∈ lw_g ∧ Cond.initialized bl_takeWhole.1.cls ∈ lw_g ∧ (bl_takeWhole.1.cls ≠ "java/lang/invoke/MethodHandle" ∧ bl_takeWhole.1.cls ≠ "java/lang/invoke/VarHandle" ∧ (parseMethodDescriptor bl_takeWhole.1.desc).map (fun d => d.parameters.length) = some 1) := ⟨by decide +kernel, by decide +kernel, lw_a4 58 (by decide +kernel) rfl, lw_a1 8 (by decide +kernel) rfl, by decide +kernel, by decide +kernel, by decide +kernel⟩
theorem pk_to_kept_328 : mj_KV to_kept bl_takeWhole 328 0 1 := ⟨⟨p0_bl_takeWhole.1, p0_bl_takeWhole.2.1, p0_bl_takeWhole.2.2.1, p0_bl_takeWhole.2.2.2.1, p0_bl_takeWhole.2.2.2.2, by decide⟩, lw_a4 55 (by decide +kernel) rfl, lw_a4 56 (by decide +kernel) rfl, lw_a4 57 (by decide +kernel) rfl, _, _, rfl⟩
theorem pk_to_kept_239 : mj_KV to_kept bl_takeMoved 239 0 3 := ⟨⟨p0_bl_takeMoved.1, p0_bl_takeMoved.2.1, p0_bl_takeMoved.2.2.1, p0_bl_takeMoved.2.2.2.1, p0_bl_takeMoved.2.2.2.2, by decide⟩, lw_a3 110 (by decide +kernel) rfl, lw_a3 111 (by decide +kernel) rfl, lw_a3 112 (by decide +kernel) rfl, _, _, rfl⟩
theorem p0_pa_isBlock : plainFor pa_isBlock.1 = true ∧ pa_isBlock.1 ≠ yL_law ∧ Cond.code pa_isBlock.1 pa_isBlock.2.1 pa_isBlock.2.2.1 pa_isBlock.2.2.2.1 ∈ lw_g ∧ Cond.initialized pa_isBlock.1.cls ∈ lw_g ∧ (pa_isBlock.1.cls ≠ "java/lang/invoke/MethodHandle" ∧ pa_isBlock.1.cls ≠ "java/lang/invoke/VarHandle" ∧ (parseMethodDescriptor pa_isBlock.1.desc).map (fun d => d.parameters.length) = some 1) := ⟨by decide +kernel, by decide +kernel, lw_a4 64 (by decide +kernel) rfl, lw_a1 11 (by decide +kernel) rfl, by decide +kernel, by decide +kernel, by decide +kernel⟩
theorem pk_to_kept_332 : mj_KV to_kept pa_isBlock 332 6 1 := ⟨⟨p0_pa_isBlock.1, p0_pa_isBlock.2.1, p0_pa_isBlock.2.2.1, p0_pa_isBlock.2.2.2.1, p0_pa_isBlock.2.2.2.2, by decide⟩, lw_a4 61 (by decide +kernel) rfl, lw_a4 62 (by decide +kernel) rfl, lw_a4 63 (by decide +kernel) rfl, _, _, rfl⟩
theorem pk_to_congruent_139 : mj_KV to_congruent to_patternOf 139 10 1 := ⟨⟨p0_to_patternOf.1, p0_to_patternOf.2.1, p0_to_patternOf.2.2.1, p0_to_patternOf.2.2.2.1, p0_to_patternOf.2.2.2.2, by decide⟩, lw_a2 139 (by decide +kernel) rfl, lw_a2 141 (by decide +kernel) rfl, lw_a0 1 (by decide +kernel) rfl, _, _, rfl⟩
theorem pk_to_congruent_327 : mj_KV to_congruent pa_isFull 327 6 0 := ⟨⟨p0_pa_isFull.1, p0_pa_isFull.2.1, p0_pa_isFull.2.2.1, p0_pa_isFull.2.2.2.1, p0_pa_isFull.2.2.2.2, by decide⟩, lw_a4 51 (by decide +kernel) rfl, lw_a4 52 (by decide +kernel) rfl, lw_a4 53 (by decide +kernel) rfl, _, _, rfl⟩
theorem pk_to_congruent_328 : mj_KV to_congruent bl_takeWhole 328 0 1 := ⟨⟨p0_bl_takeWhole.1, p0_bl_takeWhole.2.1, p0_bl_takeWhole.2.2.1, p0_bl_takeWhole.2.2.2.1, p0_bl_takeWhole.2.2.2.2, by decide⟩, lw_a4 55 (by decide +kernel) rfl, lw_a4 56 (by decide +kernel) rfl, lw_a4 57 (by decide +kernel) rfl, _, _, rfl⟩
theorem pk_to_congruent_239 : mj_KV to_congruent bl_takeMoved 239 0 3 := ⟨⟨p0_bl_takeMoved.1, p0_bl_takeMoved.2.1, p0_bl_takeMoved.2.2.1, p0_bl_takeMoved.2.2.2.1, p0_bl_takeMoved.2.2.2.2, by decide⟩, lw_a3 110 (by decide +kernel) rfl, lw_a3 111 (by decide +kernel) rfl, lw_a3 112 (by decide +kernel) rfl, _, _, rfl⟩
theorem pk_to_congruent_332 : mj_KV to_congruent pa_isBlock 332 6 1 := ⟨⟨p0_pa_isBlock.1, p0_pa_isBlock.2.1, p0_pa_isBlock.2.2.1, p0_pa_isBlock.2.2.2.1, p0_pa_isBlock.2.2.2.2, by decide⟩, lw_a4 61 (by decide +kernel) rfl, lw_a4 62 (by decide +kernel) rfl, lw_a4 63 (by decide +kernel) rfl, _, _, rfl⟩
theorem pk_to_find_139 : mj_KV to_find to_patternOf 139 10 1 := ⟨⟨p0_to_patternOf.1, p0_to_patternOf.2.1, p0_to_patternOf.2.2.1, p0_to_patternOf.2.2.2.1, p0_to_patternOf.2.2.2.2, by decide⟩, lw_a2 139 (by decide +kernel) rfl, lw_a2 141 (by decide +kernel) rfl, lw_a0 1 (by decide +kernel) rfl, _, _, rfl⟩
theorem pk_to_find_327 : mj_KV to_find pa_isFull 327 6 0 := ⟨⟨p0_pa_isFull.1, p0_pa_isFull.2.1, p0_pa_isFull.2.2.1, p0_pa_isFull.2.2.2.1, p0_pa_isFull.2.2.2.2, by decide⟩, lw_a4 51 (by decide +kernel) rfl, lw_a4 52 (by decide +kernel) rfl, lw_a4 53 (by decide +kernel) rfl, _, _, rfl⟩
theorem pk_to_find_336 : mj_KS to_find jd_fillI 336 2 := ⟨⟨p0_jd_fillI.1, p0_jd_fillI.2.1, p0_jd_fillI.2.2.1, p0_jd_fillI.2.2.2.1, p0_jd_fillI.2.2.2.2, by decide⟩, lw_a4 81 (by decide +kernel) rfl, lw_a2 166 (by decide +kernel) rfl⟩
theorem pk_to_find_328 : mj_KV to_find bl_takeWhole 328 0 1 := ⟨⟨p0_bl_takeWhole.1, p0_bl_takeWhole.2.1, p0_bl_takeWhole.2.2.1, p0_bl_takeWhole.2.2.2.1, p0_bl_takeWhole.2.2.2.2, by decide⟩, lw_a4 55 (by decide +kernel) rfl, lw_a4 56 (by decide +kernel) rfl, lw_a4 57 (by decide +kernel) rfl, _, _, rfl⟩
theorem pk_to_find_239 : mj_KV to_find bl_takeMoved 239 0 3 := ⟨⟨p0_bl_takeMoved.1, p0_bl_takeMoved.2.1, p0_bl_takeMoved.2.2.1, p0_bl_takeMoved.2.2.2.1, p0_bl_takeMoved.2.2.2.2, by decide⟩, lw_a3 110 (by decide +kernel) rfl, lw_a3 111 (by decide +kernel) rfl, lw_a3 112 (by decide +kernel) rfl, _, _, rfl⟩
theorem p0_to_markFound : plainFor to_markFound.1 = true ∧ to_markFound.1 ≠ yL_law ∧ Cond.code to_markFound.1 to_markFound.2.1 to_markFound.2.2.1 to_markFound.2.2.2.1 ∈ lw_g ∧ Cond.initialized to_markFound.1.cls ∈ lw_g ∧ (to_markFound.1.cls ≠ "java/lang/invoke/MethodHandle" ∧ to_markFound.1.cls ≠ "java/lang/invoke/VarHandle" ∧ (parseMethodDescriptor to_markFound.1.desc).map (fun d => d.parameters.length) = some 2) := ⟨by decide +kernel, by decide +kernel, lw_a4 85 (by decide +kernel) rfl, lw_a1 1 (by decide +kernel) rfl, by decide +kernel, by decide +kernel, by decide +kernel⟩
theorem pk_to_find_342 : mj_KV to_find to_markFound 342 10 2 := ⟨⟨p0_to_markFound.1, p0_to_markFound.2.1, p0_to_markFound.2.2.1, p0_to_markFound.2.2.2.1, p0_to_markFound.2.2.2.2, by decide⟩, lw_a4 82 (by decide +kernel) rfl, lw_a4 84 (by decide +kernel) rfl, lw_a0 21 (by decide +kernel) rfl, _, _, rfl⟩
theorem p0_to_foundAt : plainFor to_foundAt.1 = true ∧ to_foundAt.1 ≠ yL_law ∧ Cond.code to_foundAt.1 to_foundAt.2.1 to_foundAt.2.2.1 to_foundAt.2.2.2.1 ∈ lw_g ∧ Cond.initialized to_foundAt.1.cls ∈ lw_g ∧ (to_foundAt.1.cls ≠ "java/lang/invoke/MethodHandle" ∧ to_foundAt.1.cls ≠ "java/lang/invoke/VarHandle" ∧ (parseMethodDescriptor to_foundAt.1.desc).map (fun d => d.parameters.length) = some 1) := ⟨by decide +kernel, by decide +kernel, lw_a4 90 (by decide +kernel) rfl, lw_a1 1 (by decide +kernel) rfl, by decide +kernel, by decide +kernel, by decide +kernel⟩
theorem pk_to_find_346 : mj_KV to_find to_foundAt 346 10 1 := ⟨⟨p0_to_foundAt.1, p0_to_foundAt.2.1, p0_to_foundAt.2.2.1, p0_to_foundAt.2.2.2.1, p0_to_foundAt.2.2.2.2, by decide⟩, lw_a4 87 (by decide +kernel) rfl, lw_a4 89 (by decide +kernel) rfl, lw_a0 22 (by decide +kernel) rfl, _, _, rfl⟩
theorem pk_to_markFound_215 : mj_KV to_markFound pa_offsetAt 215 6 1 := ⟨⟨p0_pa_offsetAt.1, p0_pa_offsetAt.2.1, p0_pa_offsetAt.2.2.1, p0_pa_offsetAt.2.2.2.1, p0_pa_offsetAt.2.2.2.2, by decide⟩, lw_a3 57 (by decide +kernel) rfl, lw_a3 58 (by decide +kernel) rfl, lw_a3 59 (by decide +kernel) rfl, _, _, rfl⟩
theorem pk_to_markFound_212 : mj_KV to_markFound pa_lengthAt 212 6 1 := ⟨⟨p0_pa_lengthAt.1, p0_pa_lengthAt.2.1, p0_pa_lengthAt.2.2.1, p0_pa_lengthAt.2.2.2.1, p0_pa_lengthAt.2.2.2.2, by decide⟩, lw_a3 49 (by decide +kernel) rfl, lw_a3 50 (by decide +kernel) rfl, lw_a3 51 (by decide +kernel) rfl, _, _, rfl⟩
theorem pk_to_markFound_349 : mj_KV to_markFound pa_bears 349 6 3 := ⟨⟨p0_pa_bears.1, p0_pa_bears.2.1, p0_pa_bears.2.2.1, p0_pa_bears.2.2.2.1, p0_pa_bears.2.2.2.2, by decide⟩, lw_a4 86 (by decide +kernel) rfl, lw_a4 66 (by decide +kernel) rfl, lw_a4 67 (by decide +kernel) rfl, _, _, rfl⟩
theorem p0_jd_bcI : plainFor jd_bcI.1 = true ∧ jd_bcI.1 ≠ yL_law ∧ Cond.code jd_bcI.1 jd_bcI.2.1 jd_bcI.2.2.1 jd_bcI.2.2.2.1 ∈ lw_g ∧ Cond.initialized jd_bcI.1.cls ∈ lw_g ∧ (jd_bcI.1.cls ≠ "java/lang/invoke/MethodHandle" ∧ jd_bcI.1.cls ≠ "java/lang/invoke/VarHandle" ∧ (parseMethodDescriptor jd_bcI.1.desc).map (fun d => d.parameters.length) = some 1) := ⟨by decide +kernel, by decide +kernel, lw_a4 93 (by decide +kernel) rfl, lw_a1 16 (by decide +kernel) rfl, by decide +kernel, by decide +kernel, by decide +kernel⟩
theorem pk_to_foundAt_353 : mj_KS to_foundAt jd_bcI 353 1 := ⟨⟨p0_jd_bcI.1, p0_jd_bcI.2.1, p0_jd_bcI.2.2.1, p0_jd_bcI.2.2.2.1, p0_jd_bcI.2.2.2.2, by decide⟩, lw_a4 91 (by decide +kernel) rfl, lw_a4 92 (by decide +kernel) rfl⟩
theorem p0_to_bitAt : plainFor to_bitAt.1 = true ∧ to_bitAt.1 ≠ yL_law ∧ Cond.code to_bitAt.1 to_bitAt.2.1 to_bitAt.2.2.1 to_bitAt.2.2.2.1 ∈ lw_g ∧ Cond.initialized to_bitAt.1.cls ∈ lw_g ∧ (to_bitAt.1.cls ≠ "java/lang/invoke/MethodHandle" ∧ to_bitAt.1.cls ≠ "java/lang/invoke/VarHandle" ∧ (parseMethodDescriptor to_bitAt.1.desc).map (fun d => d.parameters.length) = some 2) := ⟨by decide +kernel, by decide +kernel, lw_a4 99 (by decide +kernel) rfl, lw_a1 1 (by decide +kernel) rfl, by decide +kernel, by decide +kernel, by decide +kernel⟩
theorem pk_to_foundAt_358 : mj_KS to_foundAt to_bitAt 358 2 := ⟨⟨p0_to_bitAt.1, p0_to_bitAt.2.1, p0_to_bitAt.2.2.1, p0_to_bitAt.2.2.2.1, p0_to_bitAt.2.2.2.2, by decide⟩, lw_a4 97 (by decide +kernel) rfl, lw_a4 98 (by decide +kernel) rfl⟩
theorem pf_to_361 : mj_F RX11 361 10 12 15 false .int := ⟨_, _, rfl, by decide, rfl, rfl, rfl, lw_a2 16 (by decide +kernel) rfl⟩
theorem p0_fl_mayBe : plainFor fl_mayBe.1 = true ∧ fl_mayBe.1 ≠ yL_law ∧ Cond.code fl_mayBe.1 fl_mayBe.2.1 fl_mayBe.2.2.1 fl_mayBe.2.2.2.1 ∈ lw_g ∧ Cond.initialized fl_mayBe.1.cls ∈ lw_g ∧ (fl_mayBe.1.cls ≠ "java/lang/invoke/MethodHandle" ∧ fl_mayBe.1.cls ≠ "java/lang/invoke/VarHandle" ∧ (parseMethodDescriptor fl_mayBe.1.desc).map (fun d => d.parameters.length) = some 2) := ⟨by decide +kernel, by decide +kernel, lw_a4 106 (by decide +kernel) rfl, lw_a1 17 (by decide +kernel) rfl, by decide +kernel, by decide +kernel, by decide +kernel⟩
theorem pk_to_floor_364 : mj_KS to_floor fl_mayBe 364 2 := ⟨⟨p0_fl_mayBe.1, p0_fl_mayBe.2.1, p0_fl_mayBe.2.2.1, p0_fl_mayBe.2.2.2.1, p0_fl_mayBe.2.2.2.2, by decide⟩, lw_a4 104 (by decide +kernel) rfl, lw_a4 105 (by decide +kernel) rfl⟩
theorem p0_fl_init : plainFor fl_init.1 = true ∧ fl_init.1 ≠ yL_law ∧ Cond.code fl_init.1 fl_init.2.1 fl_init.2.2.1 fl_init.2.2.2.1 ∈ lw_g ∧ Cond.initialized fl_init.1.cls ∈ lw_g ∧ (fl_init.1.cls ≠ "java/lang/invoke/MethodHandle" ∧ fl_init.1.cls ≠ "java/lang/invoke/VarHandle" ∧ (parseMethodDescriptor fl_init.1.desc).map (fun d => d.parameters.length) = some 2) := ⟨by decide +kernel, by decide +kernel, lw_a4 110 (by decide +kernel) rfl, lw_a1 17 (by decide +kernel) rfl, by decide +kernel, by decide +kernel, by decide +kernel⟩
theorem pk_to_floor_365 : mj_KI to_floor fl_init 365 2 := ⟨⟨p0_fl_init.1, p0_fl_init.2.1, p0_fl_init.2.2.1, p0_fl_init.2.2.2.1, p0_fl_init.2.2.2.2, by decide⟩, lw_a4 108 (by decide +kernel) rfl, lw_a4 109 (by decide +kernel) rfl, rfl, rfl⟩
theorem p0_to_floorOf : plainFor to_floorOf.1 = true ∧ to_floorOf.1 ≠ yL_law ∧ Cond.code to_floorOf.1 to_floorOf.2.1 to_floorOf.2.2.1 to_floorOf.2.2.2.1 ∈ lw_g ∧ Cond.initialized to_floorOf.1.cls ∈ lw_g ∧ (to_floorOf.1.cls ≠ "java/lang/invoke/MethodHandle" ∧ to_floorOf.1.cls ≠ "java/lang/invoke/VarHandle" ∧ (parseMethodDescriptor to_floorOf.1.desc).map (fun d => d.parameters.length) = some 1) := ⟨by decide +kernel, by decide +kernel, lw_a4 138 (by decide +kernel) rfl, lw_a1 1 (by decide +kernel) rfl, by decide +kernel, by decide +kernel, by decide +kernel⟩
theorem pk_to_place_366 : mj_KV to_place to_floorOf 366 10 1 := ⟨⟨p0_to_floorOf.1, p0_to_floorOf.2.1, p0_to_floorOf.2.2.1, p0_to_floorOf.2.2.2.1, p0_to_floorOf.2.2.2.2, by decide⟩, lw_a4 135 (by decide +kernel) rfl, lw_a4 137 (by decide +kernel) rfl, lw_a0 23 (by decide +kernel) rfl, _, _, rfl⟩
theorem pk_to_place_370 : mj_KV to_place fl_hasPlace 370 3 2 := ⟨⟨p0_fl_hasPlace.1, p0_fl_hasPlace.2.1, p0_fl_hasPlace.2.2.1, p0_fl_hasPlace.2.2.2.1, p0_fl_hasPlace.2.2.2.2, by decide⟩, lw_a4 139 (by decide +kernel) rfl, lw_a4 140 (by decide +kernel) rfl, lw_a4 141 (by decide +kernel) rfl, _, _, rfl⟩
theorem p0_fl_setPlace : plainFor fl_setPlace.1 = true ∧ fl_setPlace.1 ≠ yL_law ∧ Cond.code fl_setPlace.1 fl_setPlace.2.1 fl_setPlace.2.2.1 fl_setPlace.2.2.2.1 ∈ lw_g ∧ Cond.initialized fl_setPlace.1.cls ∈ lw_g ∧ (fl_setPlace.1.cls ≠ "java/lang/invoke/MethodHandle" ∧ fl_setPlace.1.cls ≠ "java/lang/invoke/VarHandle" ∧ (parseMethodDescriptor fl_setPlace.1.desc).map (fun d => d.parameters.length) = some 3) := ⟨by decide +kernel, by decide +kernel, lw_a4 146 (by decide +kernel) rfl, lw_a1 17 (by decide +kernel) rfl, by decide +kernel, by decide +kernel, by decide +kernel⟩
theorem pk_to_place_371 : mj_KV to_place fl_setPlace 371 3 3 := ⟨⟨p0_fl_setPlace.1, p0_fl_setPlace.2.1, p0_fl_setPlace.2.2.1, p0_fl_setPlace.2.2.2.1, p0_fl_setPlace.2.2.2.2, by decide⟩, lw_a4 143 (by decide +kernel) rfl, lw_a4 144 (by decide +kernel) rfl, lw_a4 145 (by decide +kernel) rfl, _, _, rfl⟩
theorem pk_to_place_180 : mj_KV to_place to_isKindInMove 180 10 2 := ⟨⟨p0_to_isKindInMove.1, p0_to_isKindInMove.2.1, p0_to_isKindInMove.2.2.1, p0_to_isKindInMove.2.2.2.1, p0_to_isKindInMove.2.2.2.2, by decide⟩, lw_a3 1 (by decide +kernel) rfl, lw_a3 3 (by decide +kernel) rfl, lw_a0 5 (by decide +kernel) rfl, _, _, rfl⟩
theorem pk_to_place_117 : mj_KV to_place ki_lies 117 5 2 := ⟨⟨p0_ki_lies.1, p0_ki_lies.2.1, p0_ki_lies.2.2.1, p0_ki_lies.2.2.2.1, p0_ki_lies.2.2.2.2, by decide⟩, lw_a2 92 (by decide +kernel) rfl, lw_a2 93 (by decide +kernel) rfl, lw_a2 94 (by decide +kernel) rfl, _, _, rfl⟩
theorem pk_to_stock_366 : mj_KV to_stock to_floorOf 366 10 1 := ⟨⟨p0_to_floorOf.1, p0_to_floorOf.2.1, p0_to_floorOf.2.2.1, p0_to_floorOf.2.2.2.1, p0_to_floorOf.2.2.2.2, by decide⟩, lw_a4 135 (by decide +kernel) rfl, lw_a4 137 (by decide +kernel) rfl, lw_a0 23 (by decide +kernel) rfl, _, _, rfl⟩
theorem pk_to_stock_110 : mj_KV to_stock ki_has 110 5 1 := ⟨⟨p0_ki_has.1, p0_ki_has.2.1, p0_ki_has.2.2.1, p0_ki_has.2.2.2.1, p0_ki_has.2.2.2.2, by decide⟩, lw_a2 85 (by decide +kernel) rfl, lw_a2 86 (by decide +kernel) rfl, lw_a2 87 (by decide +kernel) rfl, _, _, rfl⟩
theorem p0_fl_setStock : plainFor fl_setStock.1 = true ∧ fl_setStock.1 ≠ yL_law ∧ Cond.code fl_setStock.1 fl_setStock.2.1 fl_setStock.2.2.1 fl_setStock.2.2.2.1 ∈ lw_g ∧ Cond.initialized fl_setStock.1.cls ∈ lw_g ∧ (fl_setStock.1.cls ≠ "java/lang/invoke/MethodHandle" ∧ fl_setStock.1.cls ≠ "java/lang/invoke/VarHandle" ∧ (parseMethodDescriptor fl_setStock.1.desc).map (fun d => d.parameters.length) = some 2) := ⟨by decide +kernel, by decide +kernel, lw_a4 155 (by decide +kernel) rfl, lw_a1 17 (by decide +kernel) rfl, by decide +kernel, by decide +kernel, by decide +kernel⟩
theorem pk_to_stock_374 : mj_KV to_stock fl_setStock 374 3 2 := ⟨⟨p0_fl_setStock.1, p0_fl_setStock.2.1, p0_fl_setStock.2.2.1, p0_fl_setStock.2.2.2.1, p0_fl_setStock.2.2.2.2, by decide⟩, lw_a4 152 (by decide +kernel) rfl, lw_a4 153 (by decide +kernel) rfl, lw_a4 154 (by decide +kernel) rfl, _, _, rfl⟩
theorem pk_to_fill_366 : mj_KV to_fill to_floorOf 366 10 1 := ⟨⟨p0_to_floorOf.1, p0_to_floorOf.2.1, p0_to_floorOf.2.2.1, p0_to_floorOf.2.2.2.1, p0_to_floorOf.2.2.2.2, by decide⟩, lw_a4 135 (by decide +kernel) rfl, lw_a4 137 (by decide +kernel) rfl, lw_a0 23 (by decide +kernel) rfl, _, _, rfl⟩
theorem p0_se_run : plainFor se_run.1 = true ∧ se_run.1 ≠ yL_law ∧ Cond.code se_run.1 se_run.2.1 se_run.2.2.1 se_run.2.2.2.1 ∈ lw_g ∧ Cond.initialized se_run.1.cls ∈ lw_g ∧ (se_run.1.cls ≠ "java/lang/invoke/MethodHandle" ∧ se_run.1.cls ≠ "java/lang/invoke/VarHandle" ∧ (parseMethodDescriptor se_run.1.desc).map (fun d => d.parameters.length) = some 3) := ⟨by decide +kernel, by decide +kernel, lw_a4 163 (by decide +kernel) rfl, lw_a1 5 (by decide +kernel) rfl, by decide +kernel, by decide +kernel, by decide +kernel⟩
theorem pk_to_fill_377 : mj_KV to_fill se_run 377 9 3 := ⟨⟨p0_se_run.1, p0_se_run.2.1, p0_se_run.2.2.1, p0_se_run.2.2.2.1, p0_se_run.2.2.2.2, by decide⟩, lw_a4 160 (by decide +kernel) rfl, lw_a4 161 (by decide +kernel) rfl, lw_a4 162 (by decide +kernel) rfl, _, _, rfl⟩
theorem pf_to_381 : mj_F RX11 381 9 10 13 false .int := ⟨_, _, rfl, by decide, rfl, rfl, rfl, lw_a1 139 (by decide +kernel) rfl⟩
theorem pf_to_384 : mj_F RX11 384 9 12 13 false .boolean := ⟨_, _, rfl, by decide, rfl, rfl, rfl, lw_a1 143 (by decide +kernel) rfl⟩
theorem pk_to_fills_366 : mj_KV to_fills to_floorOf 366 10 1 := ⟨⟨p0_to_floorOf.1, p0_to_floorOf.2.1, p0_to_floorOf.2.2.1, p0_to_floorOf.2.2.2.1, p0_to_floorOf.2.2.2.2, by decide⟩, lw_a4 135 (by decide +kernel) rfl, lw_a4 137 (by decide +kernel) rfl, lw_a0 23 (by decide +kernel) rfl, _, _, rfl⟩
theorem pk_to_fills_377 : mj_KV to_fills se_run 377 9 3 := ⟨⟨p0_se_run.1, p0_se_run.2.1, p0_se_run.2.2.1, p0_se_run.2.2.2.1, p0_se_run.2.2.2.2, by decide⟩, lw_a4 160 (by decide +kernel) rfl, lw_a4 161 (by decide +kernel) rfl, lw_a4 162 (by decide +kernel) rfl, _, _, rfl⟩
theorem pk_to_cheapest_366 : mj_KV to_cheapest to_floorOf 366 10 1 := ⟨⟨p0_to_floorOf.1, p0_to_floorOf.2.1, p0_to_floorOf.2.2.1, p0_to_floorOf.2.2.2.1, p0_to_floorOf.2.2.2.2, by decide⟩, lw_a4 135 (by decide +kernel) rfl, lw_a4 137 (by decide +kernel) rfl, lw_a0 23 (by decide +kernel) rfl, _, _, rfl⟩
theorem pi_to_388 : Cond.constant RX11 388 (2147483647) ∈ lw_g := lw_a5 114 (by decide +kernel) rfl
theorem pk_to_cheapest_377 : mj_KV to_cheapest se_run 377 9 3 := ⟨⟨p0_se_run.1, p0_se_run.2.1, p0_se_run.2.2.1, p0_se_run.2.2.2.1, p0_se_run.2.2.2.2, by decide⟩, lw_a4 160 (by decide +kernel) rfl, lw_a4 161 (by decide +kernel) rfl, lw_a4 162 (by decide +kernel) rfl, _, _, rfl⟩
theorem pf_to_389 : mj_F RX11 389 9 11 13 false .int := ⟨_, _, rfl, by decide, rfl, rfl, rfl, lw_a1 141 (by decide +kernel) rfl⟩
theorem pk_to_forced_366 : mj_KV to_forced to_floorOf 366 10 1 := ⟨⟨p0_to_floorOf.1, p0_to_floorOf.2.1, p0_to_floorOf.2.2.1, p0_to_floorOf.2.2.2.1, p0_to_floorOf.2.2.2.2, by decide⟩, lw_a4 135 (by decide +kernel) rfl, lw_a4 137 (by decide +kernel) rfl, lw_a0 23 (by decide +kernel) rfl, _, _, rfl⟩
theorem pk_to_forced_392 : mj_KV to_forced bo_begin 392 1 1 := ⟨⟨p0_bo_begin.1, p0_bo_begin.2.1, p0_bo_begin.2.2.1, p0_bo_begin.2.2.2.1, p0_bo_begin.2.2.2.2, by decide⟩, lw_a5 119 (by decide +kernel) rfl, lw_a4 169 (by decide +kernel) rfl, lw_a4 170 (by decide +kernel) rfl, _, _, rfl⟩
theorem p0_bo_forceRounds : plainFor bo_forceRounds.1 = true ∧ bo_forceRounds.1 ≠ yL_law ∧ Cond.code bo_forceRounds.1 bo_forceRounds.2.1 bo_forceRounds.2.2.1 bo_forceRounds.2.2.2.1 ∈ lw_g ∧ Cond.initialized bo_forceRounds.1.cls ∈ lw_g ∧ (bo_forceRounds.1.cls ≠ "java/lang/invoke/MethodHandle" ∧ bo_forceRounds.1.cls ≠ "java/lang/invoke/VarHandle" ∧ (parseMethodDescriptor bo_forceRounds.1.desc).map (fun d => d.parameters.length) = some 0) := ⟨by decide +kernel, by decide +kernel, lw_a5 123 (by decide +kernel) rfl, lw_a1 3 (by decide +kernel) rfl, by decide +kernel, by decide +kernel, by decide +kernel⟩
theorem pk_to_forced_396 : mj_KV to_forced bo_forceRounds 396 1 0 := ⟨⟨p0_bo_forceRounds.1, p0_bo_forceRounds.2.1, p0_bo_forceRounds.2.2.1, p0_bo_forceRounds.2.2.2.1, p0_bo_forceRounds.2.2.2.2, by decide⟩, lw_a5 120 (by decide +kernel) rfl, lw_a5 121 (by decide +kernel) rfl, lw_a5 122 (by decide +kernel) rfl, _, _, rfl⟩
theorem pk_to_forced_399 : mj_KV to_forced bo_showOn 399 1 1 := ⟨⟨p0_bo_showOn.1, p0_bo_showOn.2.1, p0_bo_showOn.2.2.1, p0_bo_showOn.2.2.2.1, p0_bo_showOn.2.2.2.2, by decide⟩, lw_a5 130 (by decide +kernel) rfl, lw_a5 24 (by decide +kernel) rfl, lw_a5 25 (by decide +kernel) rfl, _, _, rfl⟩
theorem pk_to_shown_366 : mj_KV to_shown to_floorOf 366 10 1 := ⟨⟨p0_to_floorOf.1, p0_to_floorOf.2.1, p0_to_floorOf.2.2.1, p0_to_floorOf.2.2.2.1, p0_to_floorOf.2.2.2.2, by decide⟩, lw_a4 135 (by decide +kernel) rfl, lw_a4 137 (by decide +kernel) rfl, lw_a0 23 (by decide +kernel) rfl, _, _, rfl⟩
theorem pk_to_shown_370 : mj_KV to_shown fl_hasPlace 370 3 2 := ⟨⟨p0_fl_hasPlace.1, p0_fl_hasPlace.2.1, p0_fl_hasPlace.2.2.1, p0_fl_hasPlace.2.2.2.1, p0_fl_hasPlace.2.2.2.2, by decide⟩, lw_a4 139 (by decide +kernel) rfl, lw_a4 140 (by decide +kernel) rfl, lw_a4 141 (by decide +kernel) rfl, _, _, rfl⟩
theorem p0_fl_shownAt : plainFor fl_shownAt.1 = true ∧ fl_shownAt.1 ≠ yL_law ∧ Cond.code fl_shownAt.1 fl_shownAt.2.1 fl_shownAt.2.2.1 fl_shownAt.2.2.2.1 ∈ lw_g ∧ Cond.initialized fl_shownAt.1.cls ∈ lw_g ∧ (fl_shownAt.1.cls ≠ "java/lang/invoke/MethodHandle" ∧ fl_shownAt.1.cls ≠ "java/lang/invoke/VarHandle" ∧ (parseMethodDescriptor fl_shownAt.1.desc).map (fun d => d.parameters.length) = some 2) := ⟨by decide +kernel, by decide +kernel, lw_a5 138 (by decide +kernel) rfl, lw_a1 17 (by decide +kernel) rfl, by decide +kernel, by decide +kernel, by decide +kernel⟩
theorem pk_to_shown_402 : mj_KV to_shown fl_shownAt 402 3 2 := ⟨⟨p0_fl_shownAt.1, p0_fl_shownAt.2.1, p0_fl_shownAt.2.2.1, p0_fl_shownAt.2.2.2.1, p0_fl_shownAt.2.2.2.2, by decide⟩, lw_a5 135 (by decide +kernel) rfl, lw_a5 136 (by decide +kernel) rfl, lw_a5 137 (by decide +kernel) rfl, _, _, rfl⟩
theorem pf_to_405 : mj_F RX11 405 4 0 5 false .int := ⟨_, _, rfl, by decide, rfl, rfl, rfl, lw_a1 199 (by decide +kernel) rfl⟩
theorem p0_hi_latestPattern : plainFor hi_latestPattern.1 = true ∧ hi_latestPattern.1 ≠ yL_law ∧ Cond.code hi_latestPattern.1 hi_latestPattern.2.1 hi_latestPattern.2.2.1 hi_latestPattern.2.2.2.1 ∈ lw_g ∧ Cond.initialized hi_latestPattern.1.cls ∈ lw_g ∧ (hi_latestPattern.1.cls ≠ "java/lang/invoke/MethodHandle" ∧ hi_latestPattern.1.cls ≠ "java/lang/invoke/VarHandle" ∧ (parseMethodDescriptor hi_latestPattern.1.desc).map (fun d => d.parameters.length) = some 0) := ⟨by decide +kernel, by decide +kernel, lw_a5 146 (by decide +kernel) rfl, lw_a1 7 (by decide +kernel) rfl, by decide +kernel, by decide +kernel, by decide +kernel⟩
theorem pk_to_undo_408 : mj_KV to_undo hi_latestPattern 408 4 0 := ⟨⟨p0_hi_latestPattern.1, p0_hi_latestPattern.2.1, p0_hi_latestPattern.2.2.1, p0_hi_latestPattern.2.2.2.1, p0_hi_latestPattern.2.2.2.2, by decide⟩, lw_a5 143 (by decide +kernel) rfl, lw_a5 144 (by decide +kernel) rfl, lw_a5 145 (by decide +kernel) rfl, _, _, rfl⟩
theorem pk_to_undo_139 : mj_KV to_undo to_patternOf 139 10 1 := ⟨⟨p0_to_patternOf.1, p0_to_patternOf.2.1, p0_to_patternOf.2.2.1, p0_to_patternOf.2.2.2.1, p0_to_patternOf.2.2.2.2, by decide⟩, lw_a2 139 (by decide +kernel) rfl, lw_a2 141 (by decide +kernel) rfl, lw_a0 1 (by decide +kernel) rfl, _, _, rfl⟩
theorem p0_hi_giveBack : plainFor hi_giveBack.1 = true ∧ hi_giveBack.1 ≠ yL_law ∧ Cond.code hi_giveBack.1 hi_giveBack.2.1 hi_giveBack.2.2.1 hi_giveBack.2.2.2.1 ∈ lw_g ∧ Cond.initialized hi_giveBack.1.cls ∈ lw_g ∧ (hi_giveBack.1.cls ≠ "java/lang/invoke/MethodHandle" ∧ hi_giveBack.1.cls ≠ "java/lang/invoke/VarHandle" ∧ (parseMethodDescriptor hi_giveBack.1.desc).map (fun d => d.parameters.length) = some 1) := ⟨by decide +kernel, by decide +kernel, lw_a5 154 (by decide +kernel) rfl, lw_a1 7 (by decide +kernel) rfl, by decide +kernel, by decide +kernel, by decide +kernel⟩
theorem pk_to_undo_411 : mj_KV to_undo hi_giveBack 411 4 1 := ⟨⟨p0_hi_giveBack.1, p0_hi_giveBack.2.1, p0_hi_giveBack.2.2.1, p0_hi_giveBack.2.2.2.1, p0_hi_giveBack.2.2.2.2, by decide⟩, lw_a5 151 (by decide +kernel) rfl, lw_a5 152 (by decide +kernel) rfl, lw_a5 153 (by decide +kernel) rfl, _, _, rfl⟩
theorem pf_to_414 : mj_F RX11 414 5 0 6 false .int := ⟨_, _, rfl, by decide, rfl, rfl, rfl, lw_a1 36 (by decide +kernel) rfl⟩
theorem pf_to_415 : mj_F RX11 415 7 0 3 false .int := ⟨_, _, rfl, by decide, rfl, rfl, rfl, lw_a1 180 (by decide +kernel) rfl⟩
theorem pf_to_418 : mj_F RX11 418 9 9 13 false .int := ⟨_, _, rfl, by decide, rfl, rfl, rfl, lw_a1 137 (by decide +kernel) rfl⟩
theorem pm_rm_1 : Cond.methodLink RX12 1 objectInit ∈ lw_g := lw_a5 165 (by decide +kernel) rfl
theorem pf_rm_7 : mj_F RX12 7 11 0 55 true (.array .int) := ⟨_, _, rfl, by decide, rfl, rfl, rfl, lw_a5 167 (by decide +kernel) rfl⟩
theorem pf_rm_13 : mj_F RX12 13 11 1 55 true (.array .int) := ⟨_, _, rfl, by decide, rfl, rfl, rfl, lw_a5 168 (by decide +kernel) rfl⟩
theorem pf_rm_16 : mj_F RX12 16 11 2 55 true (.array .int) := ⟨_, _, rfl, by decide, rfl, rfl, rfl, lw_a5 169 (by decide +kernel) rfl⟩
theorem pf_rm_19 : mj_F RX12 19 11 3 55 true (.array .boolean) := ⟨_, _, rfl, by decide, rfl, rfl, rfl, lw_a5 170 (by decide +kernel) rfl⟩
theorem pf_rm_23 : mj_F RX12 23 11 4 55 true (.array .long) := ⟨_, _, rfl, by decide, rfl, rfl, rfl, lw_a5 171 (by decide +kernel) rfl⟩
theorem pf_rm_27 : mj_F RX12 27 11 6 55 true (.array .int) := ⟨_, _, rfl, by decide, rfl, rfl, rfl, lw_a5 173 (by decide +kernel) rfl⟩
theorem pf_rm_30 : mj_F RX12 30 11 7 55 true (.array .int) := ⟨_, _, rfl, by decide, rfl, rfl, rfl, lw_a5 174 (by decide +kernel) rfl⟩
theorem pi_rm_33 : Cond.constant RX12 33 (360000) ∈ lw_g := lw_a5 166 (by decide +kernel) rfl
theorem pf_rm_34 : mj_F RX12 34 11 8 55 true (.array .int) := ⟨_, _, rfl, by decide, rfl, rfl, rfl, lw_a5 175 (by decide +kernel) rfl⟩
theorem pf_rm_37 : mj_F RX12 37 11 10 55 true (.array .int) := ⟨_, _, rfl, by decide, rfl, rfl, rfl, lw_a5 177 (by decide +kernel) rfl⟩
theorem pf_rm_40 : mj_F RX12 40 11 11 55 true (.array .int) := ⟨_, _, rfl, by decide, rfl, rfl, rfl, lw_a5 178 (by decide +kernel) rfl⟩
theorem pf_rm_43 : mj_F RX12 43 11 13 55 true (.array .int) := ⟨_, _, rfl, by decide, rfl, rfl, rfl, lw_a5 180 (by decide +kernel) rfl⟩
theorem pf_rm_46 : mj_F RX12 46 11 14 55 true (.array .int) := ⟨_, _, rfl, by decide, rfl, rfl, rfl, lw_a5 181 (by decide +kernel) rfl⟩
theorem pf_rm_49 : mj_F RX12 49 11 15 55 true (.array .int) := ⟨_, _, rfl, by decide, rfl, rfl, rfl, lw_a5 182 (by decide +kernel) rfl⟩
theorem pf_rm_52 : mj_F RX12 52 11 20 55 true (.array .int) := ⟨_, _, rfl, by decide, rfl, rfl, rfl, lw_a5 187 (by decide +kernel) rfl⟩
theorem pf_rm_55 : mj_F RX12 55 11 21 55 true (.array .int) := ⟨_, _, rfl, by decide, rfl, rfl, rfl, lw_a5 188 (by decide +kernel) rfl⟩
theorem pf_rm_58 : mj_F RX12 58 11 22 55 true (.array .boolean) := ⟨_, _, rfl, by decide, rfl, rfl, rfl, lw_a5 189 (by decide +kernel) rfl⟩
theorem pf_rm_61 : mj_F RX12 61 11 23 55 true (.array .boolean) := ⟨_, _, rfl, by decide, rfl, rfl, rfl, lw_a5 190 (by decide +kernel) rfl⟩
theorem pf_rm_64 : mj_F RX12 64 11 26 55 true (.array .int) := ⟨_, _, rfl, by decide, rfl, rfl, rfl, lw_a5 193 (by decide +kernel) rfl⟩
theorem pf_rm_67 : mj_F RX12 67 11 27 55 true (.array .int) := ⟨_, _, rfl, by decide, rfl, rfl, rfl, lw_a5 194 (by decide +kernel) rfl⟩
theorem pf_rm_70 : mj_F RX12 70 11 28 55 true (.array .int) := ⟨_, _, rfl, by decide, rfl, rfl, rfl, lw_a5 195 (by decide +kernel) rfl⟩
theorem pf_rm_73 : mj_F RX12 73 11 30 55 true (.array .int) := ⟨_, _, rfl, by decide, rfl, rfl, rfl, lw_a5 197 (by decide +kernel) rfl⟩
theorem pf_rm_76 : mj_F RX12 76 11 31 55 true (.array .int) := ⟨_, _, rfl, by decide, rfl, rfl, rfl, lw_a5 198 (by decide +kernel) rfl⟩
theorem pf_rm_79 : mj_F RX12 79 11 32 55 true (.array .int) := ⟨_, _, rfl, by decide, rfl, rfl, rfl, lw_a5 199 (by decide +kernel) rfl⟩
theorem pf_rm_82 : mj_F RX12 82 11 33 55 true (.array .long) := ⟨_, _, rfl, by decide, rfl, rfl, rfl, lw_a5 200 (by decide +kernel) rfl⟩
theorem pf_rm_85 : mj_F RX12 85 11 34 55 true (.array .long) := ⟨_, _, rfl, by decide, rfl, rfl, rfl, lw_a5 201 (by decide +kernel) rfl⟩
theorem pf_rm_88 : mj_F RX12 88 11 35 55 true (.array .int) := ⟨_, _, rfl, by decide, rfl, rfl, rfl, lw_a5 202 (by decide +kernel) rfl⟩
theorem pf_rm_91 : mj_F RX12 91 11 36 55 true (.array .int) := ⟨_, _, rfl, by decide, rfl, rfl, rfl, lw_a5 203 (by decide +kernel) rfl⟩
theorem pf_rm_94 : mj_F RX12 94 11 37 55 true (.array .int) := ⟨_, _, rfl, by decide, rfl, rfl, rfl, lw_a5 204 (by decide +kernel) rfl⟩
theorem pf_rm_97 : mj_F RX12 97 11 38 55 true (.array .int) := ⟨_, _, rfl, by decide, rfl, rfl, rfl, lw_a5 205 (by decide +kernel) rfl⟩
theorem pf_rm_100 : mj_F RX12 100 11 39 55 true (.array .int) := ⟨_, _, rfl, by decide, rfl, rfl, rfl, lw_a5 206 (by decide +kernel) rfl⟩
theorem pf_rm_103 : mj_F RX12 103 11 44 55 true (.array .int) := ⟨_, _, rfl, by decide, rfl, rfl, rfl, lw_a5 211 (by decide +kernel) rfl⟩
theorem pf_rm_106 : mj_F RX12 106 11 45 55 true (.array .int) := ⟨_, _, rfl, by decide, rfl, rfl, rfl, lw_a5 212 (by decide +kernel) rfl⟩
theorem pf_rm_109 : mj_F RX12 109 11 46 55 true (.array .int) := ⟨_, _, rfl, by decide, rfl, rfl, rfl, lw_a5 213 (by decide +kernel) rfl⟩
theorem pf_rm_112 : mj_F RX12 112 11 47 55 true (.array .int) := ⟨_, _, rfl, by decide, rfl, rfl, rfl, lw_a5 214 (by decide +kernel) rfl⟩
theorem pf_rm_115 : mj_F RX12 115 11 48 55 true (.array .int) := ⟨_, _, rfl, by decide, rfl, rfl, rfl, lw_a5 215 (by decide +kernel) rfl⟩
theorem pi_rm_118 : Cond.constantLong RX12 118 (255) ∈ lw_g := lw_a6 100 (by decide +kernel) rfl
theorem pi_rm_120 : Cond.constantLong RX12 120 (97) ∈ lw_g := lw_a6 101 (by decide +kernel) rfl
theorem pi_rm_122 : Cond.constantLong RX12 122 (122) ∈ lw_g := lw_a6 102 (by decide +kernel) rfl
theorem p0_rm_plain : plainFor rm_plain.1 = true ∧ rm_plain.1 ≠ yL_law ∧ Cond.code rm_plain.1 rm_plain.2.1 rm_plain.2.2.1 rm_plain.2.2.2.1 ∈ lw_g ∧ Cond.initialized rm_plain.1.cls ∈ lw_g ∧ (rm_plain.1.cls ≠ "java/lang/invoke/MethodHandle" ∧ rm_plain.1.cls ≠ "java/lang/invoke/VarHandle" ∧ (parseMethodDescriptor rm_plain.1.desc).map (fun d => d.parameters.length) = some 1) := ⟨by decide +kernel, by decide +kernel, lw_a6 99 (by decide +kernel) rfl, lw_a1 10 (by decide +kernel) rfl, by decide +kernel, by decide +kernel, by decide +kernel⟩
theorem pk_rm_kind_124 : mj_KS rm_kind rm_plain 124 1 := ⟨⟨p0_rm_plain.1, p0_rm_plain.2.1, p0_rm_plain.2.2.1, p0_rm_plain.2.2.2.1, p0_rm_plain.2.2.2.2, by decide⟩, lw_a6 97 (by decide +kernel) rfl, lw_a6 98 (by decide +kernel) rfl⟩
theorem pf_rm_128 : mj_F RX12 128 11 5 55 false .int := ⟨_, _, rfl, by decide, rfl, rfl, rfl, lw_a5 172 (by decide +kernel) rfl⟩
theorem pi_rm_132 : Cond.constant RX12 132 (-65536) ∈ lw_g := lw_a6 103 (by decide +kernel) rfl
theorem p0_rm_named : plainFor rm_named.1 = true ∧ rm_named.1 ≠ yL_law ∧ Cond.code rm_named.1 rm_named.2.1 rm_named.2.2.1 rm_named.2.2.2.1 ∈ lw_g ∧ Cond.initialized rm_named.1.cls ∈ lw_g ∧ (rm_named.1.cls ≠ "java/lang/invoke/MethodHandle" ∧ rm_named.1.cls ≠ "java/lang/invoke/VarHandle" ∧ (parseMethodDescriptor rm_named.1.desc).map (fun d => d.parameters.length) = some 1) := ⟨by decide +kernel, by decide +kernel, lw_a6 107 (by decide +kernel) rfl, lw_a1 10 (by decide +kernel) rfl, by decide +kernel, by decide +kernel, by decide +kernel⟩
theorem pk_rm_kind_133 : mj_KV rm_kind rm_named 133 11 1 := ⟨⟨p0_rm_named.1, p0_rm_named.2.1, p0_rm_named.2.2.1, p0_rm_named.2.2.2.1, p0_rm_named.2.2.2.2, by decide⟩, lw_a6 104 (by decide +kernel) rfl, lw_a6 105 (by decide +kernel) rfl, lw_a6 106 (by decide +kernel) rfl, _, _, rfl⟩
theorem pk_rm_named_124 : mj_KS rm_named rm_plain 124 1 := ⟨⟨p0_rm_plain.1, p0_rm_plain.2.1, p0_rm_plain.2.2.1, p0_rm_plain.2.2.2.1, p0_rm_plain.2.2.2.2, by decide⟩, lw_a6 97 (by decide +kernel) rfl, lw_a6 98 (by decide +kernel) rfl⟩
theorem p0_rm_isMove : plainFor rm_isMove.1 = true ∧ rm_isMove.1 ≠ yL_law ∧ Cond.code rm_isMove.1 rm_isMove.2.1 rm_isMove.2.2.1 rm_isMove.2.2.2.1 ∈ lw_g ∧ Cond.initialized rm_isMove.1.cls ∈ lw_g ∧ (rm_isMove.1.cls ≠ "java/lang/invoke/MethodHandle" ∧ rm_isMove.1.cls ≠ "java/lang/invoke/VarHandle" ∧ (parseMethodDescriptor rm_isMove.1.desc).map (fun d => d.parameters.length) = some 1) := ⟨by decide +kernel, by decide +kernel, lw_a6 115 (by decide +kernel) rfl, lw_a1 10 (by decide +kernel) rfl, by decide +kernel, by decide +kernel, by decide +kernel⟩
theorem pk_rm_then_137 : mj_KS rm_then rm_isMove 137 1 := ⟨⟨p0_rm_isMove.1, p0_rm_isMove.2.1, p0_rm_isMove.2.2.1, p0_rm_isMove.2.2.2.1, p0_rm_isMove.2.2.2.2, by decide⟩, lw_a6 113 (by decide +kernel) rfl, lw_a6 114 (by decide +kernel) rfl⟩
theorem p0_rm_thenMove : plainFor rm_thenMove.1 = true ∧ rm_thenMove.1 ≠ yL_law ∧ Cond.code rm_thenMove.1 rm_thenMove.2.1 rm_thenMove.2.2.1 rm_thenMove.2.2.2.1 ∈ lw_g ∧ Cond.initialized rm_thenMove.1.cls ∈ lw_g ∧ (rm_thenMove.1.cls ≠ "java/lang/invoke/MethodHandle" ∧ rm_thenMove.1.cls ≠ "java/lang/invoke/VarHandle" ∧ (parseMethodDescriptor rm_thenMove.1.desc).map (fun d => d.parameters.length) = some 2) := ⟨by decide +kernel, by decide +kernel, lw_a6 118 (by decide +kernel) rfl, lw_a1 10 (by decide +kernel) rfl, by decide +kernel, by decide +kernel, by decide +kernel⟩
theorem pk_rm_then_141 : mj_KS rm_then rm_thenMove 141 2 := ⟨⟨p0_rm_thenMove.1, p0_rm_thenMove.2.1, p0_rm_thenMove.2.2.1, p0_rm_thenMove.2.2.2.1, p0_rm_thenMove.2.2.2.2, by decide⟩, lw_a6 116 (by decide +kernel) rfl, lw_a6 117 (by decide +kernel) rfl⟩
theorem p0_rm_isKind : plainFor rm_isKind.1 = true ∧ rm_isKind.1 ≠ yL_law ∧ Cond.code rm_isKind.1 rm_isKind.2.1 rm_isKind.2.2.1 rm_isKind.2.2.2.1 ∈ lw_g ∧ Cond.initialized rm_isKind.1.cls ∈ lw_g ∧ (rm_isKind.1.cls ≠ "java/lang/invoke/MethodHandle" ∧ rm_isKind.1.cls ≠ "java/lang/invoke/VarHandle" ∧ (parseMethodDescriptor rm_isKind.1.desc).map (fun d => d.parameters.length) = some 1) := ⟨by decide +kernel, by decide +kernel, lw_a6 126 (by decide +kernel) rfl, lw_a1 10 (by decide +kernel) rfl, by decide +kernel, by decide +kernel, by decide +kernel⟩
theorem pk_rm_edge_145 : mj_KV rm_edge rm_isKind 145 11 1 := ⟨⟨p0_rm_isKind.1, p0_rm_isKind.2.1, p0_rm_isKind.2.2.1, p0_rm_isKind.2.2.2.1, p0_rm_isKind.2.2.2.2, by decide⟩, lw_a6 123 (by decide +kernel) rfl, lw_a6 125 (by decide +kernel) rfl, lw_a0 48 (by decide +kernel) rfl, _, _, rfl⟩
theorem pk_rm_edge_137 : mj_KS rm_edge rm_isMove 137 1 := ⟨⟨p0_rm_isMove.1, p0_rm_isMove.2.1, p0_rm_isMove.2.2.1, p0_rm_isMove.2.2.2.1, p0_rm_isMove.2.2.2.2, by decide⟩, lw_a6 113 (by decide +kernel) rfl, lw_a6 114 (by decide +kernel) rfl⟩
theorem p0_rm_lies : plainFor rm_lies.1 = true ∧ rm_lies.1 ≠ yL_law ∧ Cond.code rm_lies.1 rm_lies.2.1 rm_lies.2.2.1 rm_lies.2.2.2.1 ∈ lw_g ∧ Cond.initialized rm_lies.1.cls ∈ lw_g ∧ (rm_lies.1.cls ≠ "java/lang/invoke/MethodHandle" ∧ rm_lies.1.cls ≠ "java/lang/invoke/VarHandle" ∧ (parseMethodDescriptor rm_lies.1.desc).map (fun d => d.parameters.length) = some 2) := ⟨by decide +kernel, by decide +kernel, lw_a6 130 (by decide +kernel) rfl, lw_a1 10 (by decide +kernel) rfl, by decide +kernel, by decide +kernel, by decide +kernel⟩
theorem pk_rm_edge_148 : mj_KV rm_edge rm_lies 148 11 2 := ⟨⟨p0_rm_lies.1, p0_rm_lies.2.1, p0_rm_lies.2.2.1, p0_rm_lies.2.2.2.1, p0_rm_lies.2.2.2.2, by decide⟩, lw_a6 127 (by decide +kernel) rfl, lw_a6 129 (by decide +kernel) rfl, lw_a0 49 (by decide +kernel) rfl, _, _, rfl⟩
theorem p0_rm_colour : plainFor rm_colour.1 = true ∧ rm_colour.1 ≠ yL_law ∧ Cond.code rm_colour.1 rm_colour.2.1 rm_colour.2.2.1 rm_colour.2.2.2.1 ∈ lw_g ∧ Cond.initialized rm_colour.1.cls ∈ lw_g ∧ (rm_colour.1.cls ≠ "java/lang/invoke/MethodHandle" ∧ rm_colour.1.cls ≠ "java/lang/invoke/VarHandle" ∧ (parseMethodDescriptor rm_colour.1.desc).map (fun d => d.parameters.length) = some 3) := ⟨by decide +kernel, by decide +kernel, lw_a6 134 (by decide +kernel) rfl, lw_a1 10 (by decide +kernel) rfl, by decide +kernel, by decide +kernel, by decide +kernel⟩
theorem pk_rm_edge_151 : mj_KV rm_edge rm_colour 151 11 3 := ⟨⟨p0_rm_colour.1, p0_rm_colour.2.1, p0_rm_colour.2.2.1, p0_rm_colour.2.2.2.1, p0_rm_colour.2.2.2.2, by decide⟩, lw_a6 131 (by decide +kernel) rfl, lw_a6 133 (by decide +kernel) rfl, lw_a0 50 (by decide +kernel) rfl, _, _, rfl⟩
theorem pi_rm_155 : Cond.constant RX12 155 (65535) ∈ lw_g := lw_a6 209 (by decide +kernel) rfl
theorem p0_rm_kindOf : plainFor rm_kindOf.1 = true ∧ rm_kindOf.1 ≠ yL_law ∧ Cond.code rm_kindOf.1 rm_kindOf.2.1 rm_kindOf.2.2.1 rm_kindOf.2.2.2.1 ∈ lw_g ∧ Cond.initialized rm_kindOf.1.cls ∈ lw_g ∧ (rm_kindOf.1.cls ≠ "java/lang/invoke/MethodHandle" ∧ rm_kindOf.1.cls ≠ "java/lang/invoke/VarHandle" ∧ (parseMethodDescriptor rm_kindOf.1.desc).map (fun d => d.parameters.length) = some 1) := ⟨by decide +kernel, by decide +kernel, lw_a6 208 (by decide +kernel) rfl, lw_a1 10 (by decide +kernel) rfl, by decide +kernel, by decide +kernel, by decide +kernel⟩
theorem pk_rm_moved_156 : mj_KS rm_moved rm_kindOf 156 1 := ⟨⟨p0_rm_kindOf.1, p0_rm_kindOf.2.1, p0_rm_kindOf.2.2.1, p0_rm_kindOf.2.2.2.1, p0_rm_kindOf.2.2.2.2, by decide⟩, lw_a6 206 (by decide +kernel) rfl, lw_a6 207 (by decide +kernel) rfl⟩
theorem p0_rm_moveOf : plainFor rm_moveOf.1 = true ∧ rm_moveOf.1 ≠ yL_law ∧ Cond.code rm_moveOf.1 rm_moveOf.2.1 rm_moveOf.2.2.1 rm_moveOf.2.2.2.1 ∈ lw_g ∧ Cond.initialized rm_moveOf.1.cls ∈ lw_g ∧ (rm_moveOf.1.cls ≠ "java/lang/invoke/MethodHandle" ∧ rm_moveOf.1.cls ≠ "java/lang/invoke/VarHandle" ∧ (parseMethodDescriptor rm_moveOf.1.desc).map (fun d => d.parameters.length) = some 1) := ⟨by decide +kernel, by decide +kernel, lw_a6 212 (by decide +kernel) rfl, lw_a1 10 (by decide +kernel) rfl, by decide +kernel, by decide +kernel, by decide +kernel⟩
theorem pk_rm_moved_160 : mj_KS rm_moved rm_moveOf 160 1 := ⟨⟨p0_rm_moveOf.1, p0_rm_moveOf.2.1, p0_rm_moveOf.2.2.1, p0_rm_moveOf.2.2.2.1, p0_rm_moveOf.2.2.2.2, by decide⟩, lw_a6 210 (by decide +kernel) rfl, lw_a6 211 (by decide +kernel) rfl⟩
theorem pk_rm_moved_141 : mj_KS rm_moved rm_thenMove 141 2 := ⟨⟨p0_rm_thenMove.1, p0_rm_thenMove.2.1, p0_rm_thenMove.2.2.1, p0_rm_thenMove.2.2.2.1, p0_rm_thenMove.2.2.2.2, by decide⟩, lw_a6 116 (by decide +kernel) rfl, lw_a6 117 (by decide +kernel) rfl⟩
theorem pk_rm_moved_148 : mj_KV rm_moved rm_lies 148 11 2 := ⟨⟨p0_rm_lies.1, p0_rm_lies.2.1, p0_rm_lies.2.2.1, p0_rm_lies.2.2.2.1, p0_rm_lies.2.2.2.2, by decide⟩, lw_a6 127 (by decide +kernel) rfl, lw_a6 129 (by decide +kernel) rfl, lw_a0 49 (by decide +kernel) rfl, _, _, rfl⟩
theorem p0_rm_shadeOf : plainFor rm_shadeOf.1 = true ∧ rm_shadeOf.1 ≠ yL_law ∧ Cond.code rm_shadeOf.1 rm_shadeOf.2.1 rm_shadeOf.2.2.1 rm_shadeOf.2.2.2.1 ∈ lw_g ∧ Cond.initialized rm_shadeOf.1.cls ∈ lw_g ∧ (rm_shadeOf.1.cls ≠ "java/lang/invoke/MethodHandle" ∧ rm_shadeOf.1.cls ≠ "java/lang/invoke/VarHandle" ∧ (parseMethodDescriptor rm_shadeOf.1.desc).map (fun d => d.parameters.length) = some 1) := ⟨by decide +kernel, by decide +kernel, lw_a6 219 (by decide +kernel) rfl, lw_a1 10 (by decide +kernel) rfl, by decide +kernel, by decide +kernel, by decide +kernel⟩
theorem pk_rm_moved_163 : mj_KS rm_moved rm_shadeOf 163 1 := ⟨⟨p0_rm_shadeOf.1, p0_rm_shadeOf.2.1, p0_rm_shadeOf.2.2.1, p0_rm_shadeOf.2.2.2.1, p0_rm_shadeOf.2.2.2.2, by decide⟩, lw_a6 217 (by decide +kernel) rfl, lw_a6 218 (by decide +kernel) rfl⟩
theorem p0_rm_cell : plainFor rm_cell.1 = true ∧ rm_cell.1 ≠ yL_law ∧ Cond.code rm_cell.1 rm_cell.2.1 rm_cell.2.2.1 rm_cell.2.2.2.1 ∈ lw_g ∧ Cond.initialized rm_cell.1.cls ∈ lw_g ∧ (rm_cell.1.cls ≠ "java/lang/invoke/MethodHandle" ∧ rm_cell.1.cls ≠ "java/lang/invoke/VarHandle" ∧ (parseMethodDescriptor rm_cell.1.desc).map (fun d => d.parameters.length) = some 3) := ⟨by decide +kernel, by decide +kernel, lw_a6 185 (by decide +kernel) rfl, lw_a1 10 (by decide +kernel) rfl, by decide +kernel, by decide +kernel, by decide +kernel⟩
theorem pk_rm_moved_166 : mj_KS rm_moved rm_cell 166 3 := ⟨⟨p0_rm_cell.1, p0_rm_cell.2.1, p0_rm_cell.2.2.1, p0_rm_cell.2.2.2.1, p0_rm_cell.2.2.2.2, by decide⟩, lw_a6 183 (by decide +kernel) rfl, lw_a6 184 (by decide +kernel) rfl⟩
theorem pk_rm_fit_156 : mj_KS rm_fit rm_kindOf 156 1 := ⟨⟨p0_rm_kindOf.1, p0_rm_kindOf.2.1, p0_rm_kindOf.2.2.1, p0_rm_kindOf.2.2.2.1, p0_rm_kindOf.2.2.2.2, by decide⟩, lw_a6 206 (by decide +kernel) rfl, lw_a6 207 (by decide +kernel) rfl⟩
theorem pk_rm_fit_160 : mj_KS rm_fit rm_moveOf 160 1 := ⟨⟨p0_rm_moveOf.1, p0_rm_moveOf.2.1, p0_rm_moveOf.2.2.1, p0_rm_moveOf.2.2.2.1, p0_rm_moveOf.2.2.2.2, by decide⟩, lw_a6 210 (by decide +kernel) rfl, lw_a6 211 (by decide +kernel) rfl⟩
theorem pk_rm_fit_151 : mj_KV rm_fit rm_colour 151 11 3 := ⟨⟨p0_rm_colour.1, p0_rm_colour.2.1, p0_rm_colour.2.2.1, p0_rm_colour.2.2.2.1, p0_rm_colour.2.2.2.2, by decide⟩, lw_a6 131 (by decide +kernel) rfl, lw_a6 133 (by decide +kernel) rfl, lw_a0 50 (by decide +kernel) rfl, _, _, rfl⟩
theorem pf_rm_169 : mj_F RX12 169 11 12 55 false .int := ⟨_, _, rfl, by decide, rfl, rfl, rfl, lw_a5 179 (by decide +kernel) rfl⟩
theorem pf_rm_172 : mj_F RX12 172 11 9 55 false .int := ⟨_, _, rfl, by decide, rfl, rfl, rfl, lw_a5 176 (by decide +kernel) rfl⟩
theorem p0_rm_rowOf : plainFor rm_rowOf.1 = true ∧ rm_rowOf.1 ≠ yL_law ∧ Cond.code rm_rowOf.1 rm_rowOf.2.1 rm_rowOf.2.2.1 rm_rowOf.2.2.2.1 ∈ lw_g ∧ Cond.initialized rm_rowOf.1.cls ∈ lw_g ∧ (rm_rowOf.1.cls ≠ "java/lang/invoke/MethodHandle" ∧ rm_rowOf.1.cls ≠ "java/lang/invoke/VarHandle" ∧ (parseMethodDescriptor rm_rowOf.1.desc).map (fun d => d.parameters.length) = some 2) := ⟨by decide +kernel, by decide +kernel, lw_a6 158 (by decide +kernel) rfl, lw_a1 10 (by decide +kernel) rfl, by decide +kernel, by decide +kernel, by decide +kernel⟩
theorem pk_rm_has_175 : mj_KV rm_has rm_rowOf 175 11 2 := ⟨⟨p0_rm_rowOf.1, p0_rm_rowOf.2.1, p0_rm_rowOf.2.2.1, p0_rm_rowOf.2.2.2.1, p0_rm_rowOf.2.2.2.2, by decide⟩, lw_a6 155 (by decide +kernel) rfl, lw_a6 157 (by decide +kernel) rfl, lw_a0 53 (by decide +kernel) rfl, _, _, rfl⟩
theorem pk_rm_placeOf_175 : mj_KV rm_placeOf rm_rowOf 175 11 2 := ⟨⟨p0_rm_rowOf.1, p0_rm_rowOf.2.1, p0_rm_rowOf.2.2.1, p0_rm_rowOf.2.2.2.1, p0_rm_rowOf.2.2.2.2, by decide⟩, lw_a6 155 (by decide +kernel) rfl, lw_a6 157 (by decide +kernel) rfl, lw_a0 53 (by decide +kernel) rfl, _, _, rfl⟩
theorem p0_rm_placeOf : plainFor rm_placeOf.1 = true ∧ rm_placeOf.1 ≠ yL_law ∧ Cond.code rm_placeOf.1 rm_placeOf.2.1 rm_placeOf.2.2.1 rm_placeOf.2.2.2.1 ∈ lw_g ∧ Cond.initialized rm_placeOf.1.cls ∈ lw_g ∧ (rm_placeOf.1.cls ≠ "java/lang/invoke/MethodHandle" ∧ rm_placeOf.1.cls ≠ "java/lang/invoke/VarHandle" ∧ (parseMethodDescriptor rm_placeOf.1.desc).map (fun d => d.parameters.length) = some 3) := ⟨by decide +kernel, by decide +kernel, lw_a6 197 (by decide +kernel) rfl, lw_a1 10 (by decide +kernel) rfl, by decide +kernel, by decide +kernel, by decide +kernel⟩
theorem pk_rm_cellAt_178 : mj_KV rm_cellAt rm_placeOf 178 11 3 := ⟨⟨p0_rm_placeOf.1, p0_rm_placeOf.2.1, p0_rm_placeOf.2.2.1, p0_rm_placeOf.2.2.2.1, p0_rm_placeOf.2.2.2.2, by decide⟩, lw_a6 194 (by decide +kernel) rfl, lw_a6 196 (by decide +kernel) rfl, lw_a0 59 (by decide +kernel) rfl, _, _, rfl⟩
theorem pf_rm_181 : mj_F RX12 181 11 17 55 false .int := ⟨_, _, rfl, by decide, rfl, rfl, rfl, lw_a5 184 (by decide +kernel) rfl⟩
theorem pk_rm_keep_175 : mj_KV rm_keep rm_rowOf 175 11 2 := ⟨⟨p0_rm_rowOf.1, p0_rm_rowOf.2.1, p0_rm_rowOf.2.2.1, p0_rm_rowOf.2.2.2.1, p0_rm_rowOf.2.2.2.2, by decide⟩, lw_a6 155 (by decide +kernel) rfl, lw_a6 157 (by decide +kernel) rfl, lw_a0 53 (by decide +kernel) rfl, _, _, rfl⟩
theorem pf_rm_184 : mj_F RX12 184 11 16 55 false .int := ⟨_, _, rfl, by decide, rfl, rfl, rfl, lw_a5 183 (by decide +kernel) rfl⟩
theorem p0_rm_isPattern : plainFor rm_isPattern.1 = true ∧ rm_isPattern.1 ≠ yL_law ∧ Cond.code rm_isPattern.1 rm_isPattern.2.1 rm_isPattern.2.2.1 rm_isPattern.2.2.2.1 ∈ lw_g ∧ Cond.initialized rm_isPattern.1.cls ∈ lw_g ∧ (rm_isPattern.1.cls ≠ "java/lang/invoke/MethodHandle" ∧ rm_isPattern.1.cls ≠ "java/lang/invoke/VarHandle" ∧ (parseMethodDescriptor rm_isPattern.1.desc).map (fun d => d.parameters.length) = some 1) := ⟨by decide +kernel, by decide +kernel, lw_a6 150 (by decide +kernel) rfl, lw_a1 10 (by decide +kernel) rfl, by decide +kernel, by decide +kernel, by decide +kernel⟩
theorem pk_rm_insert_187 : mj_KV rm_insert rm_isPattern 187 11 1 := ⟨⟨p0_rm_isPattern.1, p0_rm_isPattern.2.1, p0_rm_isPattern.2.2.1, p0_rm_isPattern.2.2.2.1, p0_rm_isPattern.2.2.2.2, by decide⟩, lw_a6 147 (by decide +kernel) rfl, lw_a6 149 (by decide +kernel) rfl, lw_a0 51 (by decide +kernel) rfl, _, _, rfl⟩
theorem p0_rm_keep : plainFor rm_keep.1 = true ∧ rm_keep.1 ≠ yL_law ∧ Cond.code rm_keep.1 rm_keep.2.1 rm_keep.2.2.1 rm_keep.2.2.2.1 ∈ lw_g ∧ Cond.initialized rm_keep.1.cls ∈ lw_g ∧ (rm_keep.1.cls ≠ "java/lang/invoke/MethodHandle" ∧ rm_keep.1.cls ≠ "java/lang/invoke/VarHandle" ∧ (parseMethodDescriptor rm_keep.1.desc).map (fun d => d.parameters.length) = some 1) := ⟨by decide +kernel, by decide +kernel, lw_a6 154 (by decide +kernel) rfl, lw_a1 10 (by decide +kernel) rfl, by decide +kernel, by decide +kernel, by decide +kernel⟩
theorem pk_rm_insert_190 : mj_KV rm_insert rm_keep 190 11 1 := ⟨⟨p0_rm_keep.1, p0_rm_keep.2.1, p0_rm_keep.2.2.1, p0_rm_keep.2.2.2.1, p0_rm_keep.2.2.2.2, by decide⟩, lw_a6 151 (by decide +kernel) rfl, lw_a6 153 (by decide +kernel) rfl, lw_a0 52 (by decide +kernel) rfl, _, _, rfl⟩
theorem pk_rm_insert_175 : mj_KV rm_insert rm_rowOf 175 11 2 := ⟨⟨p0_rm_rowOf.1, p0_rm_rowOf.2.1, p0_rm_rowOf.2.2.1, p0_rm_rowOf.2.2.2.1, p0_rm_rowOf.2.2.2.2, by decide⟩, lw_a6 155 (by decide +kernel) rfl, lw_a6 157 (by decide +kernel) rfl, lw_a0 53 (by decide +kernel) rfl, _, _, rfl⟩
theorem p0_rm_newRow : plainFor rm_newRow.1 = true ∧ rm_newRow.1 ≠ yL_law ∧ Cond.code rm_newRow.1 rm_newRow.2.1 rm_newRow.2.2.1 rm_newRow.2.2.2.1 ∈ lw_g ∧ Cond.initialized rm_newRow.1.cls ∈ lw_g ∧ (rm_newRow.1.cls ≠ "java/lang/invoke/MethodHandle" ∧ rm_newRow.1.cls ≠ "java/lang/invoke/VarHandle" ∧ (parseMethodDescriptor rm_newRow.1.desc).map (fun d => d.parameters.length) = some 2) := ⟨by decide +kernel, by decide +kernel, lw_a6 162 (by decide +kernel) rfl, lw_a1 10 (by decide +kernel) rfl, by decide +kernel, by decide +kernel, by decide +kernel⟩
theorem pk_rm_insert_194 : mj_KV rm_insert rm_newRow 194 11 2 := ⟨⟨p0_rm_newRow.1, p0_rm_newRow.2.1, p0_rm_newRow.2.2.1, p0_rm_newRow.2.2.2.1, p0_rm_newRow.2.2.2.2, by decide⟩, lw_a6 159 (by decide +kernel) rfl, lw_a6 161 (by decide +kernel) rfl, lw_a0 54 (by decide +kernel) rfl, _, _, rfl⟩
theorem pk_rm_takeRow_175 : mj_KV rm_takeRow rm_rowOf 175 11 2 := ⟨⟨p0_rm_rowOf.1, p0_rm_rowOf.2.1, p0_rm_rowOf.2.2.1, p0_rm_rowOf.2.2.2.1, p0_rm_rowOf.2.2.2.2, by decide⟩, lw_a6 155 (by decide +kernel) rfl, lw_a6 157 (by decide +kernel) rfl, lw_a0 53 (by decide +kernel) rfl, _, _, rfl⟩
theorem pk_rm_remove_187 : mj_KV rm_remove rm_isPattern 187 11 1 := ⟨⟨p0_rm_isPattern.1, p0_rm_isPattern.2.1, p0_rm_isPattern.2.2.1, p0_rm_isPattern.2.2.2.1, p0_rm_isPattern.2.2.2.2, by decide⟩, lw_a6 147 (by decide +kernel) rfl, lw_a6 149 (by decide +kernel) rfl, lw_a0 51 (by decide +kernel) rfl, _, _, rfl⟩
theorem pk_rm_remove_190 : mj_KV rm_remove rm_keep 190 11 1 := ⟨⟨p0_rm_keep.1, p0_rm_keep.2.1, p0_rm_keep.2.2.1, p0_rm_keep.2.2.2.1, p0_rm_keep.2.2.2.2, by decide⟩, lw_a6 151 (by decide +kernel) rfl, lw_a6 153 (by decide +kernel) rfl, lw_a0 52 (by decide +kernel) rfl, _, _, rfl⟩
theorem p0_rm_takeRow : plainFor rm_takeRow.1 = true ∧ rm_takeRow.1 ≠ yL_law ∧ Cond.code rm_takeRow.1 rm_takeRow.2.1 rm_takeRow.2.2.1 rm_takeRow.2.2.2.1 ∈ lw_g ∧ Cond.initialized rm_takeRow.1.cls ∈ lw_g ∧ (rm_takeRow.1.cls ≠ "java/lang/invoke/MethodHandle" ∧ rm_takeRow.1.cls ≠ "java/lang/invoke/VarHandle" ∧ (parseMethodDescriptor rm_takeRow.1.desc).map (fun d => d.parameters.length) = some 2) := ⟨by decide +kernel, by decide +kernel, lw_a6 170 (by decide +kernel) rfl, lw_a1 10 (by decide +kernel) rfl, by decide +kernel, by decide +kernel, by decide +kernel⟩
theorem pk_rm_remove_197 : mj_KV rm_remove rm_takeRow 197 11 2 := ⟨⟨p0_rm_takeRow.1, p0_rm_takeRow.2.1, p0_rm_takeRow.2.2.1, p0_rm_takeRow.2.2.2.1, p0_rm_takeRow.2.2.2.2, by decide⟩, lw_a6 167 (by decide +kernel) rfl, lw_a6 169 (by decide +kernel) rfl, lw_a0 55 (by decide +kernel) rfl, _, _, rfl⟩
theorem pk_rm_move_187 : mj_KV rm_move rm_isPattern 187 11 1 := ⟨⟨p0_rm_isPattern.1, p0_rm_isPattern.2.1, p0_rm_isPattern.2.2.1, p0_rm_isPattern.2.2.2.1, p0_rm_isPattern.2.2.2.2, by decide⟩, lw_a6 147 (by decide +kernel) rfl, lw_a6 149 (by decide +kernel) rfl, lw_a0 51 (by decide +kernel) rfl, _, _, rfl⟩
theorem pk_rm_move_190 : mj_KV rm_move rm_keep 190 11 1 := ⟨⟨p0_rm_keep.1, p0_rm_keep.2.1, p0_rm_keep.2.2.1, p0_rm_keep.2.2.2.1, p0_rm_keep.2.2.2.2, by decide⟩, lw_a6 151 (by decide +kernel) rfl, lw_a6 153 (by decide +kernel) rfl, lw_a0 52 (by decide +kernel) rfl, _, _, rfl⟩
theorem pk_rm_move_175 : mj_KV rm_move rm_rowOf 175 11 2 := ⟨⟨p0_rm_rowOf.1, p0_rm_rowOf.2.1, p0_rm_rowOf.2.2.1, p0_rm_rowOf.2.2.2.1, p0_rm_rowOf.2.2.2.2, by decide⟩, lw_a6 155 (by decide +kernel) rfl, lw_a6 157 (by decide +kernel) rfl, lw_a0 53 (by decide +kernel) rfl, _, _, rfl⟩
theorem pk_rm_move_197 : mj_KV rm_move rm_takeRow 197 11 2 := ⟨⟨p0_rm_takeRow.1, p0_rm_takeRow.2.1, p0_rm_takeRow.2.2.1, p0_rm_takeRow.2.2.2.1, p0_rm_takeRow.2.2.2.2, by decide⟩, lw_a6 167 (by decide +kernel) rfl, lw_a6 169 (by decide +kernel) rfl, lw_a0 55 (by decide +kernel) rfl, _, _, rfl⟩
theorem pk_rm_own_175 : mj_KV rm_own rm_rowOf 175 11 2 := ⟨⟨p0_rm_rowOf.1, p0_rm_rowOf.2.1, p0_rm_rowOf.2.2.1, p0_rm_rowOf.2.2.2.1, p0_rm_rowOf.2.2.2.2, by decide⟩, lw_a6 155 (by decide +kernel) rfl, lw_a6 157 (by decide +kernel) rfl, lw_a0 53 (by decide +kernel) rfl, _, _, rfl⟩
theorem pk_rm_own_194 : mj_KV rm_own rm_newRow 194 11 2 := ⟨⟨p0_rm_newRow.1, p0_rm_newRow.2.1, p0_rm_newRow.2.2.1, p0_rm_newRow.2.2.2.1, p0_rm_newRow.2.2.2.2, by decide⟩, lw_a6 159 (by decide +kernel) rfl, lw_a6 161 (by decide +kernel) rfl, lw_a0 54 (by decide +kernel) rfl, _, _, rfl⟩
theorem pk_rm_sets_190 : mj_KV rm_sets rm_keep 190 11 1 := ⟨⟨p0_rm_keep.1, p0_rm_keep.2.1, p0_rm_keep.2.2.1, p0_rm_keep.2.2.2.1, p0_rm_keep.2.2.2.2, by decide⟩, lw_a6 151 (by decide +kernel) rfl, lw_a6 153 (by decide +kernel) rfl, lw_a0 52 (by decide +kernel) rfl, _, _, rfl⟩
theorem p0_rm_own : plainFor rm_own.1 = true ∧ rm_own.1 ≠ yL_law ∧ Cond.code rm_own.1 rm_own.2.1 rm_own.2.2.1 rm_own.2.2.2.1 ∈ lw_g ∧ Cond.initialized rm_own.1.cls ∈ lw_g ∧ (rm_own.1.cls ≠ "java/lang/invoke/MethodHandle" ∧ rm_own.1.cls ≠ "java/lang/invoke/VarHandle" ∧ (parseMethodDescriptor rm_own.1.desc).map (fun d => d.parameters.length) = some 2) := ⟨by decide +kernel, by decide +kernel, lw_a6 193 (by decide +kernel) rfl, lw_a1 10 (by decide +kernel) rfl, by decide +kernel, by decide +kernel, by decide +kernel⟩
theorem pk_rm_sets_201 : mj_KV rm_sets rm_own 201 11 2 := ⟨⟨p0_rm_own.1, p0_rm_own.2.1, p0_rm_own.2.2.1, p0_rm_own.2.2.2.1, p0_rm_own.2.2.2.2, by decide⟩, lw_a6 190 (by decide +kernel) rfl, lw_a6 192 (by decide +kernel) rfl, lw_a0 58 (by decide +kernel) rfl, _, _, rfl⟩
theorem pk_rm_sets_178 : mj_KV rm_sets rm_placeOf 178 11 3 := ⟨⟨p0_rm_placeOf.1, p0_rm_placeOf.2.1, p0_rm_placeOf.2.2.1, p0_rm_placeOf.2.2.2.1, p0_rm_placeOf.2.2.2.2, by decide⟩, lw_a6 194 (by decide +kernel) rfl, lw_a6 196 (by decide +kernel) rfl, lw_a0 59 (by decide +kernel) rfl, _, _, rfl⟩
theorem pk_rm_put_187 : mj_KV rm_put rm_isPattern 187 11 1 := ⟨⟨p0_rm_isPattern.1, p0_rm_isPattern.2.1, p0_rm_isPattern.2.2.1, p0_rm_isPattern.2.2.2.1, p0_rm_isPattern.2.2.2.2, by decide⟩, lw_a6 147 (by decide +kernel) rfl, lw_a6 149 (by decide +kernel) rfl, lw_a0 51 (by decide +kernel) rfl, _, _, rfl⟩
theorem p0_rm_has : plainFor rm_has.1 = true ∧ rm_has.1 ≠ yL_law ∧ Cond.code rm_has.1 rm_has.2.1 rm_has.2.2.1 rm_has.2.2.2.1 ∈ lw_g ∧ Cond.initialized rm_has.1.cls ∈ lw_g ∧ (rm_has.1.cls ≠ "java/lang/invoke/MethodHandle" ∧ rm_has.1.cls ≠ "java/lang/invoke/VarHandle" ∧ (parseMethodDescriptor rm_has.1.desc).map (fun d => d.parameters.length) = some 3) := ⟨by decide +kernel, by decide +kernel, lw_a6 182 (by decide +kernel) rfl, lw_a1 10 (by decide +kernel) rfl, by decide +kernel, by decide +kernel, by decide +kernel⟩
theorem pk_rm_put_204 : mj_KV rm_put rm_has 204 11 3 := ⟨⟨p0_rm_has.1, p0_rm_has.2.1, p0_rm_has.2.2.1, p0_rm_has.2.2.2.1, p0_rm_has.2.2.2.2, by decide⟩, lw_a6 179 (by decide +kernel) rfl, lw_a6 181 (by decide +kernel) rfl, lw_a0 56 (by decide +kernel) rfl, _, _, rfl⟩
theorem pk_rm_put_145 : mj_KV rm_put rm_isKind 145 11 1 := ⟨⟨p0_rm_isKind.1, p0_rm_isKind.2.1, p0_rm_isKind.2.2.1, p0_rm_isKind.2.2.2.1, p0_rm_isKind.2.2.2.2, by decide⟩, lw_a6 123 (by decide +kernel) rfl, lw_a6 125 (by decide +kernel) rfl, lw_a0 48 (by decide +kernel) rfl, _, _, rfl⟩
theorem pk_rm_put_137 : mj_KS rm_put rm_isMove 137 1 := ⟨⟨p0_rm_isMove.1, p0_rm_isMove.2.1, p0_rm_isMove.2.2.1, p0_rm_isMove.2.2.2.1, p0_rm_isMove.2.2.2.2, by decide⟩, lw_a6 113 (by decide +kernel) rfl, lw_a6 114 (by decide +kernel) rfl⟩
theorem pk_rm_put_148 : mj_KV rm_put rm_lies 148 11 2 := ⟨⟨p0_rm_lies.1, p0_rm_lies.2.1, p0_rm_lies.2.2.1, p0_rm_lies.2.2.2.1, p0_rm_lies.2.2.2.2, by decide⟩, lw_a6 127 (by decide +kernel) rfl, lw_a6 129 (by decide +kernel) rfl, lw_a0 49 (by decide +kernel) rfl, _, _, rfl⟩
theorem pk_rm_put_166 : mj_KS rm_put rm_cell 166 3 := ⟨⟨p0_rm_cell.1, p0_rm_cell.2.1, p0_rm_cell.2.2.1, p0_rm_cell.2.2.2.1, p0_rm_cell.2.2.2.2, by decide⟩, lw_a6 183 (by decide +kernel) rfl, lw_a6 184 (by decide +kernel) rfl⟩
theorem p0_rm_sets : plainFor rm_sets.1 = true ∧ rm_sets.1 ≠ yL_law ∧ Cond.code rm_sets.1 rm_sets.2.1 rm_sets.2.2.1 rm_sets.2.2.2.1 ∈ lw_g ∧ Cond.initialized rm_sets.1.cls ∈ lw_g ∧ (rm_sets.1.cls ≠ "java/lang/invoke/MethodHandle" ∧ rm_sets.1.cls ≠ "java/lang/invoke/VarHandle" ∧ (parseMethodDescriptor rm_sets.1.desc).map (fun d => d.parameters.length) = some 4) := ⟨by decide +kernel, by decide +kernel, lw_a6 189 (by decide +kernel) rfl, lw_a1 10 (by decide +kernel) rfl, by decide +kernel, by decide +kernel, by decide +kernel⟩
theorem pk_rm_put_208 : mj_KV rm_put rm_sets 208 11 4 := ⟨⟨p0_rm_sets.1, p0_rm_sets.2.1, p0_rm_sets.2.2.1, p0_rm_sets.2.2.2.1, p0_rm_sets.2.2.2.2, by decide⟩, lw_a6 186 (by decide +kernel) rfl, lw_a6 188 (by decide +kernel) rfl, lw_a0 57 (by decide +kernel) rfl, _, _, rfl⟩
theorem pk_rm_shade_187 : mj_KV rm_shade rm_isPattern 187 11 1 := ⟨⟨p0_rm_isPattern.1, p0_rm_isPattern.2.1, p0_rm_isPattern.2.2.1, p0_rm_isPattern.2.2.2.1, p0_rm_isPattern.2.2.2.2, by decide⟩, lw_a6 147 (by decide +kernel) rfl, lw_a6 149 (by decide +kernel) rfl, lw_a0 51 (by decide +kernel) rfl, _, _, rfl⟩
theorem pk_rm_shade_204 : mj_KV rm_shade rm_has 204 11 3 := ⟨⟨p0_rm_has.1, p0_rm_has.2.1, p0_rm_has.2.2.1, p0_rm_has.2.2.2.1, p0_rm_has.2.2.2.2, by decide⟩, lw_a6 179 (by decide +kernel) rfl, lw_a6 181 (by decide +kernel) rfl, lw_a0 56 (by decide +kernel) rfl, _, _, rfl⟩
theorem p0_rm_cellAt : plainFor rm_cellAt.1 = true ∧ rm_cellAt.1 ≠ yL_law ∧ Cond.code rm_cellAt.1 rm_cellAt.2.1 rm_cellAt.2.2.1 rm_cellAt.2.2.2.1 ∈ lw_g ∧ Cond.initialized rm_cellAt.1.cls ∈ lw_g ∧ (rm_cellAt.1.cls ≠ "java/lang/invoke/MethodHandle" ∧ rm_cellAt.1.cls ≠ "java/lang/invoke/VarHandle" ∧ (parseMethodDescriptor rm_cellAt.1.desc).map (fun d => d.parameters.length) = some 3) := ⟨by decide +kernel, by decide +kernel, lw_a6 205 (by decide +kernel) rfl, lw_a1 10 (by decide +kernel) rfl, by decide +kernel, by decide +kernel, by decide +kernel⟩
theorem pk_rm_shade_212 : mj_KV rm_shade rm_cellAt 212 11 3 := ⟨⟨p0_rm_cellAt.1, p0_rm_cellAt.2.1, p0_rm_cellAt.2.2.1, p0_rm_cellAt.2.2.2.1, p0_rm_cellAt.2.2.2.2, by decide⟩, lw_a6 202 (by decide +kernel) rfl, lw_a6 204 (by decide +kernel) rfl, lw_a0 60 (by decide +kernel) rfl, _, _, rfl⟩
theorem pk_rm_shade_156 : mj_KS rm_shade rm_kindOf 156 1 := ⟨⟨p0_rm_kindOf.1, p0_rm_kindOf.2.1, p0_rm_kindOf.2.2.1, p0_rm_kindOf.2.2.2.1, p0_rm_kindOf.2.2.2.2, by decide⟩, lw_a6 206 (by decide +kernel) rfl, lw_a6 207 (by decide +kernel) rfl⟩
theorem pk_rm_shade_160 : mj_KS rm_shade rm_moveOf 160 1 := ⟨⟨p0_rm_moveOf.1, p0_rm_moveOf.2.1, p0_rm_moveOf.2.2.1, p0_rm_moveOf.2.2.2.1, p0_rm_moveOf.2.2.2.2, by decide⟩, lw_a6 210 (by decide +kernel) rfl, lw_a6 211 (by decide +kernel) rfl⟩
theorem pk_rm_shade_166 : mj_KS rm_shade rm_cell 166 3 := ⟨⟨p0_rm_cell.1, p0_rm_cell.2.1, p0_rm_cell.2.2.1, p0_rm_cell.2.2.2.1, p0_rm_cell.2.2.2.2, by decide⟩, lw_a6 183 (by decide +kernel) rfl, lw_a6 184 (by decide +kernel) rfl⟩
theorem pk_rm_shade_208 : mj_KV rm_shade rm_sets 208 11 4 := ⟨⟨p0_rm_sets.1, p0_rm_sets.2.1, p0_rm_sets.2.2.1, p0_rm_sets.2.2.2.1, p0_rm_sets.2.2.2.2, by decide⟩, lw_a6 186 (by decide +kernel) rfl, lw_a6 188 (by decide +kernel) rfl, lw_a0 57 (by decide +kernel) rfl, _, _, rfl⟩
theorem pk_rm_at_187 : mj_KV rm_at rm_isPattern 187 11 1 := ⟨⟨p0_rm_isPattern.1, p0_rm_isPattern.2.1, p0_rm_isPattern.2.2.1, p0_rm_isPattern.2.2.2.1, p0_rm_isPattern.2.2.2.2, by decide⟩, lw_a6 147 (by decide +kernel) rfl, lw_a6 149 (by decide +kernel) rfl, lw_a0 51 (by decide +kernel) rfl, _, _, rfl⟩
theorem pk_rm_at_204 : mj_KV rm_at rm_has 204 11 3 := ⟨⟨p0_rm_has.1, p0_rm_has.2.1, p0_rm_has.2.2.1, p0_rm_has.2.2.2.1, p0_rm_has.2.2.2.2, by decide⟩, lw_a6 179 (by decide +kernel) rfl, lw_a6 181 (by decide +kernel) rfl, lw_a0 56 (by decide +kernel) rfl, _, _, rfl⟩
theorem pk_rm_at_212 : mj_KV rm_at rm_cellAt 212 11 3 := ⟨⟨p0_rm_cellAt.1, p0_rm_cellAt.2.1, p0_rm_cellAt.2.2.1, p0_rm_cellAt.2.2.2.1, p0_rm_cellAt.2.2.2.2, by decide⟩, lw_a6 202 (by decide +kernel) rfl, lw_a6 204 (by decide +kernel) rfl, lw_a0 60 (by decide +kernel) rfl, _, _, rfl⟩
theorem pk_rm_at_156 : mj_KS rm_at rm_kindOf 156 1 := ⟨⟨p0_rm_kindOf.1, p0_rm_kindOf.2.1, p0_rm_kindOf.2.2.1, p0_rm_kindOf.2.2.2.1, p0_rm_kindOf.2.2.2.2, by decide⟩, lw_a6 206 (by decide +kernel) rfl, lw_a6 207 (by decide +kernel) rfl⟩
theorem pk_rm_at_160 : mj_KS rm_at rm_moveOf 160 1 := ⟨⟨p0_rm_moveOf.1, p0_rm_moveOf.2.1, p0_rm_moveOf.2.2.1, p0_rm_moveOf.2.2.2.1, p0_rm_moveOf.2.2.2.2, by decide⟩, lw_a6 210 (by decide +kernel) rfl, lw_a6 211 (by decide +kernel) rfl⟩
theorem pk_rm_at_163 : mj_KS rm_at rm_shadeOf 163 1 := ⟨⟨p0_rm_shadeOf.1, p0_rm_shadeOf.2.1, p0_rm_shadeOf.2.2.1, p0_rm_shadeOf.2.2.2.1, p0_rm_shadeOf.2.2.2.2, by decide⟩, lw_a6 217 (by decide +kernel) rfl, lw_a6 218 (by decide +kernel) rfl⟩
theorem pk_rm_row_187 : mj_KV rm_row rm_isPattern 187 11 1 := ⟨⟨p0_rm_isPattern.1, p0_rm_isPattern.2.1, p0_rm_isPattern.2.2.1, p0_rm_isPattern.2.2.2.1, p0_rm_isPattern.2.2.2.2, by decide⟩, lw_a6 147 (by decide +kernel) rfl, lw_a6 149 (by decide +kernel) rfl, lw_a0 51 (by decide +kernel) rfl, _, _, rfl⟩
theorem pk_rm_row_175 : mj_KV rm_row rm_rowOf 175 11 2 := ⟨⟨p0_rm_rowOf.1, p0_rm_rowOf.2.1, p0_rm_rowOf.2.2.1, p0_rm_rowOf.2.2.2.1, p0_rm_rowOf.2.2.2.2, by decide⟩, lw_a6 155 (by decide +kernel) rfl, lw_a6 157 (by decide +kernel) rfl, lw_a0 53 (by decide +kernel) rfl, _, _, rfl⟩
theorem pk_rm_shares_187 : mj_KV rm_shares rm_isPattern 187 11 1 := ⟨⟨p0_rm_isPattern.1, p0_rm_isPattern.2.1, p0_rm_isPattern.2.2.1, p0_rm_isPattern.2.2.2.1, p0_rm_isPattern.2.2.2.2, by decide⟩, lw_a6 147 (by decide +kernel) rfl, lw_a6 149 (by decide +kernel) rfl, lw_a0 51 (by decide +kernel) rfl, _, _, rfl⟩
theorem pk_rm_shares_175 : mj_KV rm_shares rm_rowOf 175 11 2 := ⟨⟨p0_rm_rowOf.1, p0_rm_rowOf.2.1, p0_rm_rowOf.2.2.1, p0_rm_rowOf.2.2.2.1, p0_rm_rowOf.2.2.2.2, by decide⟩, lw_a6 155 (by decide +kernel) rfl, lw_a6 157 (by decide +kernel) rfl, lw_a0 53 (by decide +kernel) rfl, _, _, rfl⟩
theorem pk_rm_copy_187 : mj_KV rm_copy rm_isPattern 187 11 1 := ⟨⟨p0_rm_isPattern.1, p0_rm_isPattern.2.1, p0_rm_isPattern.2.2.1, p0_rm_isPattern.2.2.2.1, p0_rm_isPattern.2.2.2.2, by decide⟩, lw_a6 147 (by decide +kernel) rfl, lw_a6 149 (by decide +kernel) rfl, lw_a0 51 (by decide +kernel) rfl, _, _, rfl⟩
theorem pk_rm_copy_175 : mj_KV rm_copy rm_rowOf 175 11 2 := ⟨⟨p0_rm_rowOf.1, p0_rm_rowOf.2.1, p0_rm_rowOf.2.2.1, p0_rm_rowOf.2.2.2.1, p0_rm_rowOf.2.2.2.2, by decide⟩, lw_a6 155 (by decide +kernel) rfl, lw_a6 157 (by decide +kernel) rfl, lw_a0 53 (by decide +kernel) rfl, _, _, rfl⟩
theorem pf_rm_215 : mj_F RX12 215 11 18 55 false .int := ⟨_, _, rfl, by decide, rfl, rfl, rfl, lw_a5 185 (by decide +kernel) rfl⟩
theorem pf_rm_218 : mj_F RX12 218 11 19 55 false .int := ⟨_, _, rfl, by decide, rfl, rfl, rfl, lw_a5 186 (by decide +kernel) rfl⟩
theorem pk_rm_region_187 : mj_KV rm_region rm_isPattern 187 11 1 := ⟨⟨p0_rm_isPattern.1, p0_rm_isPattern.2.1, p0_rm_isPattern.2.2.1, p0_rm_isPattern.2.2.2.1, p0_rm_isPattern.2.2.2.2, by decide⟩, lw_a6 147 (by decide +kernel) rfl, lw_a6 149 (by decide +kernel) rfl, lw_a0 51 (by decide +kernel) rfl, _, _, rfl⟩
theorem pf_rm_221 : mj_F RX12 221 11 24 55 false .int := ⟨_, _, rfl, by decide, rfl, rfl, rfl, lw_a5 191 (by decide +kernel) rfl⟩
theorem pf_rm_224 : mj_F RX12 224 11 25 55 false .int := ⟨_, _, rfl, by decide, rfl, rfl, rfl, lw_a5 192 (by decide +kernel) rfl⟩
theorem pk_rm_region_204 : mj_KV rm_region rm_has 204 11 3 := ⟨⟨p0_rm_has.1, p0_rm_has.2.1, p0_rm_has.2.2.1, p0_rm_has.2.2.2.1, p0_rm_has.2.2.2.2, by decide⟩, lw_a6 179 (by decide +kernel) rfl, lw_a6 181 (by decide +kernel) rfl, lw_a0 56 (by decide +kernel) rfl, _, _, rfl⟩
theorem pk_rm_region_212 : mj_KV rm_region rm_cellAt 212 11 3 := ⟨⟨p0_rm_cellAt.1, p0_rm_cellAt.2.1, p0_rm_cellAt.2.2.1, p0_rm_cellAt.2.2.2.1, p0_rm_cellAt.2.2.2.2, by decide⟩, lw_a6 202 (by decide +kernel) rfl, lw_a6 204 (by decide +kernel) rfl, lw_a0 60 (by decide +kernel) rfl, _, _, rfl⟩
theorem pk_rm_turn_137 : mj_KS rm_turn rm_isMove 137 1 := ⟨⟨p0_rm_isMove.1, p0_rm_isMove.2.1, p0_rm_isMove.2.2.1, p0_rm_isMove.2.2.2.1, p0_rm_isMove.2.2.2.2, by decide⟩, lw_a6 113 (by decide +kernel) rfl, lw_a6 114 (by decide +kernel) rfl⟩
theorem p0_rm_comesFrom : plainFor rm_comesFrom.1 = true ∧ rm_comesFrom.1 ≠ yL_law ∧ Cond.code rm_comesFrom.1 rm_comesFrom.2.1 rm_comesFrom.2.2.1 rm_comesFrom.2.2.2.1 ∈ lw_g ∧ Cond.initialized rm_comesFrom.1.cls ∈ lw_g ∧ (rm_comesFrom.1.cls ≠ "java/lang/invoke/MethodHandle" ∧ rm_comesFrom.1.cls ≠ "java/lang/invoke/VarHandle" ∧ (parseMethodDescriptor rm_comesFrom.1.desc).map (fun d => d.parameters.length) = some 5) := ⟨by decide +kernel, by decide +kernel, lw_a7 3 (by decide +kernel) rfl, lw_a1 10 (by decide +kernel) rfl, by decide +kernel, by decide +kernel, by decide +kernel⟩
theorem pk_rm_turn_227 : mj_KV rm_turn rm_comesFrom 227 11 5 := ⟨⟨p0_rm_comesFrom.1, p0_rm_comesFrom.2.1, p0_rm_comesFrom.2.2.1, p0_rm_comesFrom.2.2.2.1, p0_rm_comesFrom.2.2.2.2, by decide⟩, lw_a7 0 (by decide +kernel) rfl, lw_a7 2 (by decide +kernel) rfl, lw_a0 61 (by decide +kernel) rfl, _, _, rfl⟩
theorem p0_rm_moved : plainFor rm_moved.1 = true ∧ rm_moved.1 ≠ yL_law ∧ Cond.code rm_moved.1 rm_moved.2.1 rm_moved.2.2.1 rm_moved.2.2.2.1 ∈ lw_g ∧ Cond.initialized rm_moved.1.cls ∈ lw_g ∧ (rm_moved.1.cls ≠ "java/lang/invoke/MethodHandle" ∧ rm_moved.1.cls ≠ "java/lang/invoke/VarHandle" ∧ (parseMethodDescriptor rm_moved.1.desc).map (fun d => d.parameters.length) = some 2) := ⟨by decide +kernel, by decide +kernel, lw_a7 7 (by decide +kernel) rfl, lw_a1 10 (by decide +kernel) rfl, by decide +kernel, by decide +kernel, by decide +kernel⟩
theorem pk_rm_turn_231 : mj_KV rm_turn rm_moved 231 11 2 := ⟨⟨p0_rm_moved.1, p0_rm_moved.2.1, p0_rm_moved.2.2.1, p0_rm_moved.2.2.2.1, p0_rm_moved.2.2.2.2, by decide⟩, lw_a7 4 (by decide +kernel) rfl, lw_a7 6 (by decide +kernel) rfl, lw_a0 62 (by decide +kernel) rfl, _, _, rfl⟩
theorem pk_rm_paste_187 : mj_KV rm_paste rm_isPattern 187 11 1 := ⟨⟨p0_rm_isPattern.1, p0_rm_isPattern.2.1, p0_rm_isPattern.2.2.1, p0_rm_isPattern.2.2.2.1, p0_rm_isPattern.2.2.2.2, by decide⟩, lw_a6 147 (by decide +kernel) rfl, lw_a6 149 (by decide +kernel) rfl, lw_a0 51 (by decide +kernel) rfl, _, _, rfl⟩
theorem p0_rm_comes : plainFor rm_comes.1 = true ∧ rm_comes.1 ≠ yL_law ∧ Cond.code rm_comes.1 rm_comes.2.1 rm_comes.2.2.1 rm_comes.2.2.2.1 ∈ lw_g ∧ Cond.initialized rm_comes.1.cls ∈ lw_g ∧ (rm_comes.1.cls ≠ "java/lang/invoke/MethodHandle" ∧ rm_comes.1.cls ≠ "java/lang/invoke/VarHandle" ∧ (parseMethodDescriptor rm_comes.1.desc).map (fun d => d.parameters.length) = some 4) := ⟨by decide +kernel, by decide +kernel, lw_a7 15 (by decide +kernel) rfl, lw_a1 10 (by decide +kernel) rfl, by decide +kernel, by decide +kernel, by decide +kernel⟩
theorem pk_rm_paste_234 : mj_KV rm_paste rm_comes 234 11 4 := ⟨⟨p0_rm_comes.1, p0_rm_comes.2.1, p0_rm_comes.2.2.1, p0_rm_comes.2.2.2.1, p0_rm_comes.2.2.2.2, by decide⟩, lw_a7 12 (by decide +kernel) rfl, lw_a7 14 (by decide +kernel) rfl, lw_a0 63 (by decide +kernel) rfl, _, _, rfl⟩
theorem pk_rm_paste_190 : mj_KV rm_paste rm_keep 190 11 1 := ⟨⟨p0_rm_keep.1, p0_rm_keep.2.1, p0_rm_keep.2.2.1, p0_rm_keep.2.2.2.1, p0_rm_keep.2.2.2.2, by decide⟩, lw_a6 151 (by decide +kernel) rfl, lw_a6 153 (by decide +kernel) rfl, lw_a0 52 (by decide +kernel) rfl, _, _, rfl⟩
theorem pk_rm_paste_201 : mj_KV rm_paste rm_own 201 11 2 := ⟨⟨p0_rm_own.1, p0_rm_own.2.1, p0_rm_own.2.2.1, p0_rm_own.2.2.2.1, p0_rm_own.2.2.2.2, by decide⟩, lw_a6 190 (by decide +kernel) rfl, lw_a6 192 (by decide +kernel) rfl, lw_a0 58 (by decide +kernel) rfl, _, _, rfl⟩
theorem pk_rm_paste_204 : mj_KV rm_paste rm_has 204 11 3 := ⟨⟨p0_rm_has.1, p0_rm_has.2.1, p0_rm_has.2.2.1, p0_rm_has.2.2.2.1, p0_rm_has.2.2.2.2, by decide⟩, lw_a6 179 (by decide +kernel) rfl, lw_a6 181 (by decide +kernel) rfl, lw_a0 56 (by decide +kernel) rfl, _, _, rfl⟩
theorem pk_rm_paste_178 : mj_KV rm_paste rm_placeOf 178 11 3 := ⟨⟨p0_rm_placeOf.1, p0_rm_placeOf.2.1, p0_rm_placeOf.2.2.1, p0_rm_placeOf.2.2.2.1, p0_rm_placeOf.2.2.2.2, by decide⟩, lw_a6 194 (by decide +kernel) rfl, lw_a6 196 (by decide +kernel) rfl, lw_a0 59 (by decide +kernel) rfl, _, _, rfl⟩
theorem pk_rm_comes_204 : mj_KV rm_comes rm_has 204 11 3 := ⟨⟨p0_rm_has.1, p0_rm_has.2.1, p0_rm_has.2.2.1, p0_rm_has.2.2.2.1, p0_rm_has.2.2.2.2, by decide⟩, lw_a6 179 (by decide +kernel) rfl, lw_a6 181 (by decide +kernel) rfl, lw_a0 56 (by decide +kernel) rfl, _, _, rfl⟩
theorem pf_rm_238 : mj_F RX12 238 11 29 55 false .int := ⟨_, _, rfl, by decide, rfl, rfl, rfl, lw_a5 196 (by decide +kernel) rfl⟩
theorem p0_rm_isRule : plainFor rm_isRule.1 = true ∧ rm_isRule.1 ≠ yL_law ∧ Cond.code rm_isRule.1 rm_isRule.2.1 rm_isRule.2.2.1 rm_isRule.2.2.2.1 ∈ lw_g ∧ Cond.initialized rm_isRule.1.cls ∈ lw_g ∧ (rm_isRule.1.cls ≠ "java/lang/invoke/MethodHandle" ∧ rm_isRule.1.cls ≠ "java/lang/invoke/VarHandle" ∧ (parseMethodDescriptor rm_isRule.1.desc).map (fun d => d.parameters.length) = some 1) := ⟨by decide +kernel, by decide +kernel, lw_a7 27 (by decide +kernel) rfl, lw_a1 10 (by decide +kernel) rfl, by decide +kernel, by decide +kernel, by decide +kernel⟩
theorem pk_rm_becomes_241 : mj_KV rm_becomes rm_isRule 241 11 1 := ⟨⟨p0_rm_isRule.1, p0_rm_isRule.2.1, p0_rm_isRule.2.2.1, p0_rm_isRule.2.2.2.1, p0_rm_isRule.2.2.2.2, by decide⟩, lw_a7 24 (by decide +kernel) rfl, lw_a7 26 (by decide +kernel) rfl, lw_a0 64 (by decide +kernel) rfl, _, _, rfl⟩
theorem pk_rm_becomes_145 : mj_KV rm_becomes rm_isKind 145 11 1 := ⟨⟨p0_rm_isKind.1, p0_rm_isKind.2.1, p0_rm_isKind.2.2.1, p0_rm_isKind.2.2.2.1, p0_rm_isKind.2.2.2.2, by decide⟩, lw_a6 123 (by decide +kernel) rfl, lw_a6 125 (by decide +kernel) rfl, lw_a0 48 (by decide +kernel) rfl, _, _, rfl⟩
theorem pk_rm_becomes_137 : mj_KS rm_becomes rm_isMove 137 1 := ⟨⟨p0_rm_isMove.1, p0_rm_isMove.2.1, p0_rm_isMove.2.2.1, p0_rm_isMove.2.2.2.1, p0_rm_isMove.2.2.2.2, by decide⟩, lw_a6 113 (by decide +kernel) rfl, lw_a6 114 (by decide +kernel) rfl⟩
theorem pk_rm_becomes_148 : mj_KV rm_becomes rm_lies 148 11 2 := ⟨⟨p0_rm_lies.1, p0_rm_lies.2.1, p0_rm_lies.2.2.1, p0_rm_lies.2.2.2.1, p0_rm_lies.2.2.2.2, by decide⟩, lw_a6 127 (by decide +kernel) rfl, lw_a6 129 (by decide +kernel) rfl, lw_a0 49 (by decide +kernel) rfl, _, _, rfl⟩
theorem pk_rm_becomes_166 : mj_KS rm_becomes rm_cell 166 3 := ⟨⟨p0_rm_cell.1, p0_rm_cell.2.1, p0_rm_cell.2.2.1, p0_rm_cell.2.2.2.1, p0_rm_cell.2.2.2.2, by decide⟩, lw_a6 183 (by decide +kernel) rfl, lw_a6 184 (by decide +kernel) rfl⟩
theorem pk_rm_grow_187 : mj_KV rm_grow rm_isPattern 187 11 1 := ⟨⟨p0_rm_isPattern.1, p0_rm_isPattern.2.1, p0_rm_isPattern.2.2.1, p0_rm_isPattern.2.2.2.1, p0_rm_isPattern.2.2.2.2, by decide⟩, lw_a6 147 (by decide +kernel) rfl, lw_a6 149 (by decide +kernel) rfl, lw_a0 51 (by decide +kernel) rfl, _, _, rfl⟩
theorem pk_rm_grow_241 : mj_KV rm_grow rm_isRule 241 11 1 := ⟨⟨p0_rm_isRule.1, p0_rm_isRule.2.1, p0_rm_isRule.2.2.1, p0_rm_isRule.2.2.2.1, p0_rm_isRule.2.2.2.2, by decide⟩, lw_a7 24 (by decide +kernel) rfl, lw_a7 26 (by decide +kernel) rfl, lw_a0 64 (by decide +kernel) rfl, _, _, rfl⟩
theorem pk_rm_grow_175 : mj_KV rm_grow rm_rowOf 175 11 2 := ⟨⟨p0_rm_rowOf.1, p0_rm_rowOf.2.1, p0_rm_rowOf.2.2.1, p0_rm_rowOf.2.2.2.1, p0_rm_rowOf.2.2.2.2, by decide⟩, lw_a6 155 (by decide +kernel) rfl, lw_a6 157 (by decide +kernel) rfl, lw_a0 53 (by decide +kernel) rfl, _, _, rfl⟩
theorem p0_rm_grown : plainFor rm_grown.1 = true ∧ rm_grown.1 ≠ yL_law ∧ Cond.code rm_grown.1 rm_grown.2.1 rm_grown.2.2.1 rm_grown.2.2.2.1 ∈ lw_g ∧ Cond.initialized rm_grown.1.cls ∈ lw_g ∧ (rm_grown.1.cls ≠ "java/lang/invoke/MethodHandle" ∧ rm_grown.1.cls ≠ "java/lang/invoke/VarHandle" ∧ (parseMethodDescriptor rm_grown.1.desc).map (fun d => d.parameters.length) = some 3) := ⟨by decide +kernel, by decide +kernel, lw_a7 35 (by decide +kernel) rfl, lw_a1 10 (by decide +kernel) rfl, by decide +kernel, by decide +kernel, by decide +kernel⟩
theorem pk_rm_grow_244 : mj_KV rm_grow rm_grown 244 11 3 := ⟨⟨p0_rm_grown.1, p0_rm_grown.2.1, p0_rm_grown.2.2.1, p0_rm_grown.2.2.2.1, p0_rm_grown.2.2.2.2, by decide⟩, lw_a7 32 (by decide +kernel) rfl, lw_a7 34 (by decide +kernel) rfl, lw_a0 65 (by decide +kernel) rfl, _, _, rfl⟩
theorem p0_rm_pattern : plainFor rm_pattern.1 = true ∧ rm_pattern.1 ≠ yL_law ∧ Cond.code rm_pattern.1 rm_pattern.2.1 rm_pattern.2.2.1 rm_pattern.2.2.2.1 ∈ lw_g ∧ Cond.initialized rm_pattern.1.cls ∈ lw_g ∧ (rm_pattern.1.cls ≠ "java/lang/invoke/MethodHandle" ∧ rm_pattern.1.cls ≠ "java/lang/invoke/VarHandle" ∧ (parseMethodDescriptor rm_pattern.1.desc).map (fun d => d.parameters.length) = some 0) := ⟨by decide +kernel, by decide +kernel, lw_a6 142 (by decide +kernel) rfl, lw_a1 10 (by decide +kernel) rfl, by decide +kernel, by decide +kernel, by decide +kernel⟩
theorem pk_rm_grow_248 : mj_KV rm_grow rm_pattern 248 11 0 := ⟨⟨p0_rm_pattern.1, p0_rm_pattern.2.1, p0_rm_pattern.2.2.1, p0_rm_pattern.2.2.2.1, p0_rm_pattern.2.2.2.2, by decide⟩, lw_a7 40 (by decide +kernel) rfl, lw_a6 140 (by decide +kernel) rfl, lw_a6 141 (by decide +kernel) rfl, _, _, rfl⟩
theorem pk_rm_grow_194 : mj_KV rm_grow rm_newRow 194 11 2 := ⟨⟨p0_rm_newRow.1, p0_rm_newRow.2.1, p0_rm_newRow.2.2.1, p0_rm_newRow.2.2.2.1, p0_rm_newRow.2.2.2.2, by decide⟩, lw_a6 159 (by decide +kernel) rfl, lw_a6 161 (by decide +kernel) rfl, lw_a0 54 (by decide +kernel) rfl, _, _, rfl⟩
theorem pk_rm_grown_160 : mj_KS rm_grown rm_moveOf 160 1 := ⟨⟨p0_rm_moveOf.1, p0_rm_moveOf.2.1, p0_rm_moveOf.2.2.1, p0_rm_moveOf.2.2.2.1, p0_rm_moveOf.2.2.2.2, by decide⟩, lw_a6 210 (by decide +kernel) rfl, lw_a6 211 (by decide +kernel) rfl⟩
theorem p0_rm_block : plainFor rm_block.1 = true ∧ rm_block.1 ≠ yL_law ∧ Cond.code rm_block.1 rm_block.2.1 rm_block.2.2.1 rm_block.2.2.2.1 ∈ lw_g ∧ Cond.initialized rm_block.1.cls ∈ lw_g ∧ (rm_block.1.cls ≠ "java/lang/invoke/MethodHandle" ∧ rm_block.1.cls ≠ "java/lang/invoke/VarHandle" ∧ (parseMethodDescriptor rm_block.1.desc).map (fun d => d.parameters.length) = some 4) := ⟨by decide +kernel, by decide +kernel, lw_a7 39 (by decide +kernel) rfl, lw_a1 10 (by decide +kernel) rfl, by decide +kernel, by decide +kernel, by decide +kernel⟩
theorem pk_rm_grown_252 : mj_KV rm_grown rm_block 252 11 4 := ⟨⟨p0_rm_block.1, p0_rm_block.2.1, p0_rm_block.2.2.1, p0_rm_block.2.2.2.1, p0_rm_block.2.2.2.2, by decide⟩, lw_a7 36 (by decide +kernel) rfl, lw_a7 38 (by decide +kernel) rfl, lw_a0 66 (by decide +kernel) rfl, _, _, rfl⟩
theorem pk_rm_block_160 : mj_KS rm_block rm_moveOf 160 1 := ⟨⟨p0_rm_moveOf.1, p0_rm_moveOf.2.1, p0_rm_moveOf.2.2.1, p0_rm_moveOf.2.2.2.1, p0_rm_moveOf.2.2.2.2, by decide⟩, lw_a6 210 (by decide +kernel) rfl, lw_a6 211 (by decide +kernel) rfl⟩
theorem pk_rm_block_227 : mj_KV rm_block rm_comesFrom 227 11 5 := ⟨⟨p0_rm_comesFrom.1, p0_rm_comesFrom.2.1, p0_rm_comesFrom.2.2.1, p0_rm_comesFrom.2.2.2.1, p0_rm_comesFrom.2.2.2.2, by decide⟩, lw_a7 0 (by decide +kernel) rfl, lw_a7 2 (by decide +kernel) rfl, lw_a0 61 (by decide +kernel) rfl, _, _, rfl⟩
theorem pk_rm_block_156 : mj_KS rm_block rm_kindOf 156 1 := ⟨⟨p0_rm_kindOf.1, p0_rm_kindOf.2.1, p0_rm_kindOf.2.2.1, p0_rm_kindOf.2.2.2.1, p0_rm_kindOf.2.2.2.2, by decide⟩, lw_a6 206 (by decide +kernel) rfl, lw_a6 207 (by decide +kernel) rfl⟩
theorem pk_rm_block_231 : mj_KV rm_block rm_moved 231 11 2 := ⟨⟨p0_rm_moved.1, p0_rm_moved.2.1, p0_rm_moved.2.2.1, p0_rm_moved.2.2.2.1, p0_rm_moved.2.2.2.2, by decide⟩, lw_a7 4 (by decide +kernel) rfl, lw_a7 6 (by decide +kernel) rfl, lw_a0 62 (by decide +kernel) rfl, _, _, rfl⟩
theorem pk_rm_block_163 : mj_KS rm_block rm_shadeOf 163 1 := ⟨⟨p0_rm_shadeOf.1, p0_rm_shadeOf.2.1, p0_rm_shadeOf.2.2.1, p0_rm_shadeOf.2.2.2.1, p0_rm_shadeOf.2.2.2.2, by decide⟩, lw_a6 217 (by decide +kernel) rfl, lw_a6 218 (by decide +kernel) rfl⟩
theorem pk_rm_block_166 : mj_KS rm_block rm_cell 166 3 := ⟨⟨p0_rm_cell.1, p0_rm_cell.2.1, p0_rm_cell.2.2.1, p0_rm_cell.2.2.2.1, p0_rm_cell.2.2.2.2, by decide⟩, lw_a6 183 (by decide +kernel) rfl, lw_a6 184 (by decide +kernel) rfl⟩
theorem pi_rm_255 : Cond.constantLong RX12 255 (-1) ∈ lw_g := lw_a7 45 (by decide +kernel) rfl
theorem pk_rm_foretold_241 : mj_KV rm_foretold rm_isRule 241 11 1 := ⟨⟨p0_rm_isRule.1, p0_rm_isRule.2.1, p0_rm_isRule.2.2.1, p0_rm_isRule.2.2.2.1, p0_rm_isRule.2.2.2.2, by decide⟩, lw_a7 24 (by decide +kernel) rfl, lw_a7 26 (by decide +kernel) rfl, lw_a0 64 (by decide +kernel) rfl, _, _, rfl⟩
theorem pk_rm_foretold_145 : mj_KV rm_foretold rm_isKind 145 11 1 := ⟨⟨p0_rm_isKind.1, p0_rm_isKind.2.1, p0_rm_isKind.2.2.1, p0_rm_isKind.2.2.2.1, p0_rm_isKind.2.2.2.2, by decide⟩, lw_a6 123 (by decide +kernel) rfl, lw_a6 125 (by decide +kernel) rfl, lw_a0 48 (by decide +kernel) rfl, _, _, rfl⟩
theorem pk_rm_foretold_156 : mj_KS rm_foretold rm_kindOf 156 1 := ⟨⟨p0_rm_kindOf.1, p0_rm_kindOf.2.1, p0_rm_kindOf.2.2.1, p0_rm_kindOf.2.2.2.1, p0_rm_kindOf.2.2.2.2, by decide⟩, lw_a6 206 (by decide +kernel) rfl, lw_a6 207 (by decide +kernel) rfl⟩
theorem p0_rm_sum : plainFor rm_sum.1 = true ∧ rm_sum.1 ≠ yL_law ∧ Cond.code rm_sum.1 rm_sum.2.1 rm_sum.2.2.1 rm_sum.2.2.2.1 ∈ lw_g ∧ Cond.initialized rm_sum.1.cls ∈ lw_g ∧ (rm_sum.1.cls ≠ "java/lang/invoke/MethodHandle" ∧ rm_sum.1.cls ≠ "java/lang/invoke/VarHandle" ∧ (parseMethodDescriptor rm_sum.1.desc).map (fun d => d.parameters.length) = some 2) := ⟨by decide +kernel, by decide +kernel, lw_a7 48 (by decide +kernel) rfl, lw_a1 10 (by decide +kernel) rfl, by decide +kernel, by decide +kernel, by decide +kernel⟩
theorem pk_rm_foretold_257 : mj_KS rm_foretold rm_sum 257 2 := ⟨⟨p0_rm_sum.1, p0_rm_sum.2.1, p0_rm_sum.2.2.1, p0_rm_sum.2.2.2.1, p0_rm_sum.2.2.2.2, by decide⟩, lw_a7 46 (by decide +kernel) rfl, lw_a7 47 (by decide +kernel) rfl⟩
theorem pi_rm_261 : Cond.constantLong RX12 261 (-2) ∈ lw_g := lw_a7 49 (by decide +kernel) rfl
theorem pk_rm_count_187 : mj_KV rm_count rm_isPattern 187 11 1 := ⟨⟨p0_rm_isPattern.1, p0_rm_isPattern.2.1, p0_rm_isPattern.2.2.1, p0_rm_isPattern.2.2.2.1, p0_rm_isPattern.2.2.2.2, by decide⟩, lw_a6 147 (by decide +kernel) rfl, lw_a6 149 (by decide +kernel) rfl, lw_a0 51 (by decide +kernel) rfl, _, _, rfl⟩
theorem pk_rm_count_145 : mj_KV rm_count rm_isKind 145 11 1 := ⟨⟨p0_rm_isKind.1, p0_rm_isKind.2.1, p0_rm_isKind.2.2.1, p0_rm_isKind.2.2.2.1, p0_rm_isKind.2.2.2.2, by decide⟩, lw_a6 123 (by decide +kernel) rfl, lw_a6 125 (by decide +kernel) rfl, lw_a0 48 (by decide +kernel) rfl, _, _, rfl⟩
theorem pk_rm_count_175 : mj_KV rm_count rm_rowOf 175 11 2 := ⟨⟨p0_rm_rowOf.1, p0_rm_rowOf.2.1, p0_rm_rowOf.2.2.1, p0_rm_rowOf.2.2.2.1, p0_rm_rowOf.2.2.2.2, by decide⟩, lw_a6 155 (by decide +kernel) rfl, lw_a6 157 (by decide +kernel) rfl, lw_a0 53 (by decide +kernel) rfl, _, _, rfl⟩
theorem pk_rm_count_156 : mj_KS rm_count rm_kindOf 156 1 := ⟨⟨p0_rm_kindOf.1, p0_rm_kindOf.2.1, p0_rm_kindOf.2.2.1, p0_rm_kindOf.2.2.2.1, p0_rm_kindOf.2.2.2.2, by decide⟩, lw_a6 206 (by decide +kernel) rfl, lw_a6 207 (by decide +kernel) rfl⟩
theorem pk_rm_fits_187 : mj_KV rm_fits rm_isPattern 187 11 1 := ⟨⟨p0_rm_isPattern.1, p0_rm_isPattern.2.1, p0_rm_isPattern.2.2.1, p0_rm_isPattern.2.2.2.1, p0_rm_isPattern.2.2.2.2, by decide⟩, lw_a6 147 (by decide +kernel) rfl, lw_a6 149 (by decide +kernel) rfl, lw_a0 51 (by decide +kernel) rfl, _, _, rfl⟩
theorem pk_rm_fits_175 : mj_KV rm_fits rm_rowOf 175 11 2 := ⟨⟨p0_rm_rowOf.1, p0_rm_rowOf.2.1, p0_rm_rowOf.2.2.1, p0_rm_rowOf.2.2.2.1, p0_rm_rowOf.2.2.2.2, by decide⟩, lw_a6 155 (by decide +kernel) rfl, lw_a6 157 (by decide +kernel) rfl, lw_a0 53 (by decide +kernel) rfl, _, _, rfl⟩
theorem pk_rm_fits_204 : mj_KV rm_fits rm_has 204 11 3 := ⟨⟨p0_rm_has.1, p0_rm_has.2.1, p0_rm_has.2.2.1, p0_rm_has.2.2.2.1, p0_rm_has.2.2.2.2, by decide⟩, lw_a6 179 (by decide +kernel) rfl, lw_a6 181 (by decide +kernel) rfl, lw_a0 56 (by decide +kernel) rfl, _, _, rfl⟩
theorem pk_rm_fits_212 : mj_KV rm_fits rm_cellAt 212 11 3 := ⟨⟨p0_rm_cellAt.1, p0_rm_cellAt.2.1, p0_rm_cellAt.2.2.1, p0_rm_cellAt.2.2.2.1, p0_rm_cellAt.2.2.2.2, by decide⟩, lw_a6 202 (by decide +kernel) rfl, lw_a6 204 (by decide +kernel) rfl, lw_a0 60 (by decide +kernel) rfl, _, _, rfl⟩
theorem p0_rm_fit : plainFor rm_fit.1 = true ∧ rm_fit.1 ≠ yL_law ∧ Cond.code rm_fit.1 rm_fit.2.1 rm_fit.2.2.1 rm_fit.2.2.2.1 ∈ lw_g ∧ Cond.initialized rm_fit.1.cls ∈ lw_g ∧ (rm_fit.1.cls ≠ "java/lang/invoke/MethodHandle" ∧ rm_fit.1.cls ≠ "java/lang/invoke/VarHandle" ∧ (parseMethodDescriptor rm_fit.1.desc).map (fun d => d.parameters.length) = some 3) := ⟨by decide +kernel, by decide +kernel, lw_a7 61 (by decide +kernel) rfl, lw_a1 10 (by decide +kernel) rfl, by decide +kernel, by decide +kernel, by decide +kernel⟩
theorem pk_rm_fits_263 : mj_KV rm_fits rm_fit 263 11 3 := ⟨⟨p0_rm_fit.1, p0_rm_fit.2.1, p0_rm_fit.2.2.1, p0_rm_fit.2.2.2.1, p0_rm_fit.2.2.2.2, by decide⟩, lw_a7 58 (by decide +kernel) rfl, lw_a7 60 (by decide +kernel) rfl, lw_a0 67 (by decide +kernel) rfl, _, _, rfl⟩
theorem pk_rm_period_187 : mj_KV rm_period rm_isPattern 187 11 1 := ⟨⟨p0_rm_isPattern.1, p0_rm_isPattern.2.1, p0_rm_isPattern.2.2.1, p0_rm_isPattern.2.2.2.1, p0_rm_isPattern.2.2.2.2, by decide⟩, lw_a6 147 (by decide +kernel) rfl, lw_a6 149 (by decide +kernel) rfl, lw_a0 51 (by decide +kernel) rfl, _, _, rfl⟩
theorem p0_rm_comesAgain : plainFor rm_comesAgain.1 = true ∧ rm_comesAgain.1 ≠ yL_law ∧ Cond.code rm_comesAgain.1 rm_comesAgain.2.1 rm_comesAgain.2.2.1 rm_comesAgain.2.2.2.1 ∈ lw_g ∧ Cond.initialized rm_comesAgain.1.cls ∈ lw_g ∧ (rm_comesAgain.1.cls ≠ "java/lang/invoke/MethodHandle" ∧ rm_comesAgain.1.cls ≠ "java/lang/invoke/VarHandle" ∧ (parseMethodDescriptor rm_comesAgain.1.desc).map (fun d => d.parameters.length) = some 3) := ⟨by decide +kernel, by decide +kernel, lw_a7 69 (by decide +kernel) rfl, lw_a1 10 (by decide +kernel) rfl, by decide +kernel, by decide +kernel, by decide +kernel⟩
theorem pk_rm_period_266 : mj_KV rm_period rm_comesAgain 266 11 3 := ⟨⟨p0_rm_comesAgain.1, p0_rm_comesAgain.2.1, p0_rm_comesAgain.2.2.1, p0_rm_comesAgain.2.2.2.1, p0_rm_comesAgain.2.2.2.2, by decide⟩, lw_a7 66 (by decide +kernel) rfl, lw_a7 68 (by decide +kernel) rfl, lw_a0 68 (by decide +kernel) rfl, _, _, rfl⟩
theorem pk_rm_comesAgain_175 : mj_KV rm_comesAgain rm_rowOf 175 11 2 := ⟨⟨p0_rm_rowOf.1, p0_rm_rowOf.2.1, p0_rm_rowOf.2.2.1, p0_rm_rowOf.2.2.2.1, p0_rm_rowOf.2.2.2.2, by decide⟩, lw_a6 155 (by decide +kernel) rfl, lw_a6 157 (by decide +kernel) rfl, lw_a0 53 (by decide +kernel) rfl, _, _, rfl⟩
theorem pk_rm_comesAgain_204 : mj_KV rm_comesAgain rm_has 204 11 3 := ⟨⟨p0_rm_has.1, p0_rm_has.2.1, p0_rm_has.2.2.1, p0_rm_has.2.2.2.1, p0_rm_has.2.2.2.2, by decide⟩, lw_a6 179 (by decide +kernel) rfl, lw_a6 181 (by decide +kernel) rfl, lw_a0 56 (by decide +kernel) rfl, _, _, rfl⟩
theorem pk_rm_comesAgain_212 : mj_KV rm_comesAgain rm_cellAt 212 11 3 := ⟨⟨p0_rm_cellAt.1, p0_rm_cellAt.2.1, p0_rm_cellAt.2.2.1, p0_rm_cellAt.2.2.2.1, p0_rm_cellAt.2.2.2.2, by decide⟩, lw_a6 202 (by decide +kernel) rfl, lw_a6 204 (by decide +kernel) rfl, lw_a0 60 (by decide +kernel) rfl, _, _, rfl⟩
theorem pk_rm_isFull_175 : mj_KV rm_isFull rm_rowOf 175 11 2 := ⟨⟨p0_rm_rowOf.1, p0_rm_rowOf.2.1, p0_rm_rowOf.2.2.1, p0_rm_rowOf.2.2.2.1, p0_rm_rowOf.2.2.2.2, by decide⟩, lw_a6 155 (by decide +kernel) rfl, lw_a6 157 (by decide +kernel) rfl, lw_a0 53 (by decide +kernel) rfl, _, _, rfl⟩
theorem pk_rm_wide_175 : mj_KV rm_wide rm_rowOf 175 11 2 := ⟨⟨p0_rm_rowOf.1, p0_rm_rowOf.2.1, p0_rm_rowOf.2.2.1, p0_rm_rowOf.2.2.2.1, p0_rm_rowOf.2.2.2.2, by decide⟩, lw_a6 155 (by decide +kernel) rfl, lw_a6 157 (by decide +kernel) rfl, lw_a0 53 (by decide +kernel) rfl, _, _, rfl⟩
theorem p0_rm_wide : plainFor rm_wide.1 = true ∧ rm_wide.1 ≠ yL_law ∧ Cond.code rm_wide.1 rm_wide.2.1 rm_wide.2.2.1 rm_wide.2.2.2.1 ∈ lw_g ∧ Cond.initialized rm_wide.1.cls ∈ lw_g ∧ (rm_wide.1.cls ≠ "java/lang/invoke/MethodHandle" ∧ rm_wide.1.cls ≠ "java/lang/invoke/VarHandle" ∧ (parseMethodDescriptor rm_wide.1.desc).map (fun d => d.parameters.length) = some 1) := ⟨by decide +kernel, by decide +kernel, lw_a7 85 (by decide +kernel) rfl, lw_a1 10 (by decide +kernel) rfl, by decide +kernel, by decide +kernel, by decide +kernel⟩
theorem pk_rm_movedCell_269 : mj_KV rm_movedCell rm_wide 269 11 1 := ⟨⟨p0_rm_wide.1, p0_rm_wide.2.1, p0_rm_wide.2.2.1, p0_rm_wide.2.2.2.1, p0_rm_wide.2.2.2.2, by decide⟩, lw_a7 82 (by decide +kernel) rfl, lw_a7 84 (by decide +kernel) rfl, lw_a0 71 (by decide +kernel) rfl, _, _, rfl⟩
theorem pk_rm_movedCell_227 : mj_KV rm_movedCell rm_comesFrom 227 11 5 := ⟨⟨p0_rm_comesFrom.1, p0_rm_comesFrom.2.1, p0_rm_comesFrom.2.2.1, p0_rm_comesFrom.2.2.2.1, p0_rm_comesFrom.2.2.2.2, by decide⟩, lw_a7 0 (by decide +kernel) rfl, lw_a7 2 (by decide +kernel) rfl, lw_a0 61 (by decide +kernel) rfl, _, _, rfl⟩
theorem pk_rm_movedCell_212 : mj_KV rm_movedCell rm_cellAt 212 11 3 := ⟨⟨p0_rm_cellAt.1, p0_rm_cellAt.2.1, p0_rm_cellAt.2.2.1, p0_rm_cellAt.2.2.2.1, p0_rm_cellAt.2.2.2.2, by decide⟩, lw_a6 202 (by decide +kernel) rfl, lw_a6 204 (by decide +kernel) rfl, lw_a0 60 (by decide +kernel) rfl, _, _, rfl⟩
theorem pk_rm_movedCell_231 : mj_KV rm_movedCell rm_moved 231 11 2 := ⟨⟨p0_rm_moved.1, p0_rm_moved.2.1, p0_rm_moved.2.2.1, p0_rm_moved.2.2.2.1, p0_rm_moved.2.2.2.2, by decide⟩, lw_a7 4 (by decide +kernel) rfl, lw_a7 6 (by decide +kernel) rfl, lw_a0 62 (by decide +kernel) rfl, _, _, rfl⟩
theorem pk_rm_isMoved_269 : mj_KV rm_isMoved rm_wide 269 11 1 := ⟨⟨p0_rm_wide.1, p0_rm_wide.2.1, p0_rm_wide.2.2.1, p0_rm_wide.2.2.2.1, p0_rm_wide.2.2.2.2, by decide⟩, lw_a7 82 (by decide +kernel) rfl, lw_a7 84 (by decide +kernel) rfl, lw_a0 71 (by decide +kernel) rfl, _, _, rfl⟩
theorem p0_rm_movedCell : plainFor rm_movedCell.1 = true ∧ rm_movedCell.1 ≠ yL_law ∧ Cond.code rm_movedCell.1 rm_movedCell.2.1 rm_movedCell.2.2.1 rm_movedCell.2.2.2.1 ∈ lw_g ∧ Cond.initialized rm_movedCell.1.cls ∈ lw_g ∧ (rm_movedCell.1.cls ≠ "java/lang/invoke/MethodHandle" ∧ rm_movedCell.1.cls ≠ "java/lang/invoke/VarHandle" ∧ (parseMethodDescriptor rm_movedCell.1.desc).map (fun d => d.parameters.length) = some 4) := ⟨by decide +kernel, by decide +kernel, lw_a7 89 (by decide +kernel) rfl, lw_a1 10 (by decide +kernel) rfl, by decide +kernel, by decide +kernel, by decide +kernel⟩
theorem pk_rm_isMoved_272 : mj_KV rm_isMoved rm_movedCell 272 11 4 := ⟨⟨p0_rm_movedCell.1, p0_rm_movedCell.2.1, p0_rm_movedCell.2.2.1, p0_rm_movedCell.2.2.2.1, p0_rm_movedCell.2.2.2.2, by decide⟩, lw_a7 86 (by decide +kernel) rfl, lw_a7 88 (by decide +kernel) rfl, lw_a0 72 (by decide +kernel) rfl, _, _, rfl⟩
theorem pk_rm_isMoved_212 : mj_KV rm_isMoved rm_cellAt 212 11 3 := ⟨⟨p0_rm_cellAt.1, p0_rm_cellAt.2.1, p0_rm_cellAt.2.2.1, p0_rm_cellAt.2.2.2.1, p0_rm_cellAt.2.2.2.2, by decide⟩, lw_a6 202 (by decide +kernel) rfl, lw_a6 204 (by decide +kernel) rfl, lw_a0 60 (by decide +kernel) rfl, _, _, rfl⟩
theorem pk_rm_kept_187 : mj_KV rm_kept rm_isPattern 187 11 1 := ⟨⟨p0_rm_isPattern.1, p0_rm_isPattern.2.1, p0_rm_isPattern.2.2.1, p0_rm_isPattern.2.2.2.1, p0_rm_isPattern.2.2.2.2, by decide⟩, lw_a6 147 (by decide +kernel) rfl, lw_a6 149 (by decide +kernel) rfl, lw_a0 51 (by decide +kernel) rfl, _, _, rfl⟩
theorem p0_rm_isFull : plainFor rm_isFull.1 = true ∧ rm_isFull.1 ≠ yL_law ∧ Cond.code rm_isFull.1 rm_isFull.2.1 rm_isFull.2.2.1 rm_isFull.2.2.2.1 ∈ lw_g ∧ Cond.initialized rm_isFull.1.cls ∈ lw_g ∧ (rm_isFull.1.cls ≠ "java/lang/invoke/MethodHandle" ∧ rm_isFull.1.cls ≠ "java/lang/invoke/VarHandle" ∧ (parseMethodDescriptor rm_isFull.1.desc).map (fun d => d.parameters.length) = some 1) := ⟨by decide +kernel, by decide +kernel, lw_a7 77 (by decide +kernel) rfl, lw_a1 10 (by decide +kernel) rfl, by decide +kernel, by decide +kernel, by decide +kernel⟩
theorem pk_rm_kept_275 : mj_KV rm_kept rm_isFull 275 11 1 := ⟨⟨p0_rm_isFull.1, p0_rm_isFull.2.1, p0_rm_isFull.2.2.1, p0_rm_isFull.2.2.2.1, p0_rm_isFull.2.2.2.2, by decide⟩, lw_a7 74 (by decide +kernel) rfl, lw_a7 76 (by decide +kernel) rfl, lw_a0 69 (by decide +kernel) rfl, _, _, rfl⟩
theorem p0_rm_isMoved : plainFor rm_isMoved.1 = true ∧ rm_isMoved.1 ≠ yL_law ∧ Cond.code rm_isMoved.1 rm_isMoved.2.1 rm_isMoved.2.2.1 rm_isMoved.2.2.2.1 ∈ lw_g ∧ Cond.initialized rm_isMoved.1.cls ∈ lw_g ∧ (rm_isMoved.1.cls ≠ "java/lang/invoke/MethodHandle" ∧ rm_isMoved.1.cls ≠ "java/lang/invoke/VarHandle" ∧ (parseMethodDescriptor rm_isMoved.1.desc).map (fun d => d.parameters.length) = some 3) := ⟨by decide +kernel, by decide +kernel, lw_a7 81 (by decide +kernel) rfl, lw_a1 10 (by decide +kernel) rfl, by decide +kernel, by decide +kernel, by decide +kernel⟩
theorem pk_rm_kept_278 : mj_KV rm_kept rm_isMoved 278 11 3 := ⟨⟨p0_rm_isMoved.1, p0_rm_isMoved.2.1, p0_rm_isMoved.2.2.1, p0_rm_isMoved.2.2.2.1, p0_rm_isMoved.2.2.2.2, by decide⟩, lw_a7 78 (by decide +kernel) rfl, lw_a7 80 (by decide +kernel) rfl, lw_a0 70 (by decide +kernel) rfl, _, _, rfl⟩
theorem pk_rm_congruent_187 : mj_KV rm_congruent rm_isPattern 187 11 1 := ⟨⟨p0_rm_isPattern.1, p0_rm_isPattern.2.1, p0_rm_isPattern.2.2.1, p0_rm_isPattern.2.2.2.1, p0_rm_isPattern.2.2.2.2, by decide⟩, lw_a6 147 (by decide +kernel) rfl, lw_a6 149 (by decide +kernel) rfl, lw_a0 51 (by decide +kernel) rfl, _, _, rfl⟩
theorem pk_rm_congruent_275 : mj_KV rm_congruent rm_isFull 275 11 1 := ⟨⟨p0_rm_isFull.1, p0_rm_isFull.2.1, p0_rm_isFull.2.2.1, p0_rm_isFull.2.2.2.1, p0_rm_isFull.2.2.2.2, by decide⟩, lw_a7 74 (by decide +kernel) rfl, lw_a7 76 (by decide +kernel) rfl, lw_a0 69 (by decide +kernel) rfl, _, _, rfl⟩
theorem pk_rm_congruent_278 : mj_KV rm_congruent rm_isMoved 278 11 3 := ⟨⟨p0_rm_isMoved.1, p0_rm_isMoved.2.1, p0_rm_isMoved.2.2.1, p0_rm_isMoved.2.2.2.1, p0_rm_isMoved.2.2.2.2, by decide⟩, lw_a7 78 (by decide +kernel) rfl, lw_a7 80 (by decide +kernel) rfl, lw_a0 70 (by decide +kernel) rfl, _, _, rfl⟩
theorem pk_rm_isFound_269 : mj_KV rm_isFound rm_wide 269 11 1 := ⟨⟨p0_rm_wide.1, p0_rm_wide.2.1, p0_rm_wide.2.2.1, p0_rm_wide.2.2.2.1, p0_rm_wide.2.2.2.2, by decide⟩, lw_a7 82 (by decide +kernel) rfl, lw_a7 84 (by decide +kernel) rfl, lw_a0 71 (by decide +kernel) rfl, _, _, rfl⟩
theorem pk_rm_isFound_204 : mj_KV rm_isFound rm_has 204 11 3 := ⟨⟨p0_rm_has.1, p0_rm_has.2.1, p0_rm_has.2.2.1, p0_rm_has.2.2.2.1, p0_rm_has.2.2.2.2, by decide⟩, lw_a6 179 (by decide +kernel) rfl, lw_a6 181 (by decide +kernel) rfl, lw_a0 56 (by decide +kernel) rfl, _, _, rfl⟩
theorem pk_rm_isFound_212 : mj_KV rm_isFound rm_cellAt 212 11 3 := ⟨⟨p0_rm_cellAt.1, p0_rm_cellAt.2.1, p0_rm_cellAt.2.2.1, p0_rm_cellAt.2.2.2.1, p0_rm_cellAt.2.2.2.2, by decide⟩, lw_a6 202 (by decide +kernel) rfl, lw_a6 204 (by decide +kernel) rfl, lw_a0 60 (by decide +kernel) rfl, _, _, rfl⟩
theorem pk_rm_isFound_272 : mj_KV rm_isFound rm_movedCell 272 11 4 := ⟨⟨p0_rm_movedCell.1, p0_rm_movedCell.2.1, p0_rm_movedCell.2.2.1, p0_rm_movedCell.2.2.2.1, p0_rm_movedCell.2.2.2.2, by decide⟩, lw_a7 86 (by decide +kernel) rfl, lw_a7 88 (by decide +kernel) rfl, lw_a0 72 (by decide +kernel) rfl, _, _, rfl⟩
theorem pk_rm_find_187 : mj_KV rm_find rm_isPattern 187 11 1 := ⟨⟨p0_rm_isPattern.1, p0_rm_isPattern.2.1, p0_rm_isPattern.2.2.1, p0_rm_isPattern.2.2.2.1, p0_rm_isPattern.2.2.2.2, by decide⟩, lw_a6 147 (by decide +kernel) rfl, lw_a6 149 (by decide +kernel) rfl, lw_a0 51 (by decide +kernel) rfl, _, _, rfl⟩
theorem pk_rm_find_275 : mj_KV rm_find rm_isFull 275 11 1 := ⟨⟨p0_rm_isFull.1, p0_rm_isFull.2.1, p0_rm_isFull.2.2.1, p0_rm_isFull.2.2.2.1, p0_rm_isFull.2.2.2.2, by decide⟩, lw_a7 74 (by decide +kernel) rfl, lw_a7 76 (by decide +kernel) rfl, lw_a0 69 (by decide +kernel) rfl, _, _, rfl⟩
theorem pk_rm_find_175 : mj_KV rm_find rm_rowOf 175 11 2 := ⟨⟨p0_rm_rowOf.1, p0_rm_rowOf.2.1, p0_rm_rowOf.2.2.1, p0_rm_rowOf.2.2.2.1, p0_rm_rowOf.2.2.2.2, by decide⟩, lw_a6 155 (by decide +kernel) rfl, lw_a6 157 (by decide +kernel) rfl, lw_a0 53 (by decide +kernel) rfl, _, _, rfl⟩
theorem p0_rm_isFound : plainFor rm_isFound.1 = true ∧ rm_isFound.1 ≠ yL_law ∧ Cond.code rm_isFound.1 rm_isFound.2.1 rm_isFound.2.2.1 rm_isFound.2.2.2.1 ∈ lw_g ∧ Cond.initialized rm_isFound.1.cls ∈ lw_g ∧ (rm_isFound.1.cls ≠ "java/lang/invoke/MethodHandle" ∧ rm_isFound.1.cls ≠ "java/lang/invoke/VarHandle" ∧ (parseMethodDescriptor rm_isFound.1.desc).map (fun d => d.parameters.length) = some 5) := ⟨by decide +kernel, by decide +kernel, lw_a7 101 (by decide +kernel) rfl, lw_a1 10 (by decide +kernel) rfl, by decide +kernel, by decide +kernel, by decide +kernel⟩
theorem pk_rm_find_281 : mj_KV rm_find rm_isFound 281 11 5 := ⟨⟨p0_rm_isFound.1, p0_rm_isFound.2.1, p0_rm_isFound.2.2.1, p0_rm_isFound.2.2.2.1, p0_rm_isFound.2.2.2.2, by decide⟩, lw_a7 98 (by decide +kernel) rfl, lw_a7 100 (by decide +kernel) rfl, lw_a0 73 (by decide +kernel) rfl, _, _, rfl⟩
theorem pf_rm_285 : mj_F RX12 285 11 40 55 false .int := ⟨_, _, rfl, by decide, rfl, rfl, rfl, lw_a5 207 (by decide +kernel) rfl⟩
theorem p0_rm_isFloor : plainFor rm_isFloor.1 = true ∧ rm_isFloor.1 ≠ yL_law ∧ Cond.code rm_isFloor.1 rm_isFloor.2.1 rm_isFloor.2.2.1 rm_isFloor.2.2.2.1 ∈ lw_g ∧ Cond.initialized rm_isFloor.1.cls ∈ lw_g ∧ (rm_isFloor.1.cls ≠ "java/lang/invoke/MethodHandle" ∧ rm_isFloor.1.cls ≠ "java/lang/invoke/VarHandle" ∧ (parseMethodDescriptor rm_isFloor.1.desc).map (fun d => d.parameters.length) = some 1) := ⟨by decide +kernel, by decide +kernel, lw_a7 117 (by decide +kernel) rfl, lw_a1 10 (by decide +kernel) rfl, by decide +kernel, by decide +kernel, by decide +kernel⟩
theorem pk_rm_isPlace_288 : mj_KV rm_isPlace rm_isFloor 288 11 1 := ⟨⟨p0_rm_isFloor.1, p0_rm_isFloor.2.1, p0_rm_isFloor.2.2.1, p0_rm_isFloor.2.2.2.1, p0_rm_isFloor.2.2.2.2, by decide⟩, lw_a7 114 (by decide +kernel) rfl, lw_a7 116 (by decide +kernel) rfl, lw_a0 75 (by decide +kernel) rfl, _, _, rfl⟩
theorem p0_rm_isPlace : plainFor rm_isPlace.1 = true ∧ rm_isPlace.1 ≠ yL_law ∧ Cond.code rm_isPlace.1 rm_isPlace.2.1 rm_isPlace.2.2.1 rm_isPlace.2.2.2.1 ∈ lw_g ∧ Cond.initialized rm_isPlace.1.cls ∈ lw_g ∧ (rm_isPlace.1.cls ≠ "java/lang/invoke/MethodHandle" ∧ rm_isPlace.1.cls ≠ "java/lang/invoke/VarHandle" ∧ (parseMethodDescriptor rm_isPlace.1.desc).map (fun d => d.parameters.length) = some 3) := ⟨by decide +kernel, by decide +kernel, lw_a7 113 (by decide +kernel) rfl, lw_a1 10 (by decide +kernel) rfl, by decide +kernel, by decide +kernel, by decide +kernel⟩
theorem pk_rm_place_291 : mj_KV rm_place rm_isPlace 291 11 3 := ⟨⟨p0_rm_isPlace.1, p0_rm_isPlace.2.1, p0_rm_isPlace.2.2.1, p0_rm_isPlace.2.2.2.1, p0_rm_isPlace.2.2.2.2, by decide⟩, lw_a7 110 (by decide +kernel) rfl, lw_a7 112 (by decide +kernel) rfl, lw_a0 74 (by decide +kernel) rfl, _, _, rfl⟩
theorem pk_rm_place_145 : mj_KV rm_place rm_isKind 145 11 1 := ⟨⟨p0_rm_isKind.1, p0_rm_isKind.2.1, p0_rm_isKind.2.2.1, p0_rm_isKind.2.2.2.1, p0_rm_isKind.2.2.2.2, by decide⟩, lw_a6 123 (by decide +kernel) rfl, lw_a6 125 (by decide +kernel) rfl, lw_a0 48 (by decide +kernel) rfl, _, _, rfl⟩
theorem pk_rm_place_137 : mj_KS rm_place rm_isMove 137 1 := ⟨⟨p0_rm_isMove.1, p0_rm_isMove.2.1, p0_rm_isMove.2.2.1, p0_rm_isMove.2.2.2.1, p0_rm_isMove.2.2.2.2, by decide⟩, lw_a6 113 (by decide +kernel) rfl, lw_a6 114 (by decide +kernel) rfl⟩
theorem pk_rm_place_148 : mj_KV rm_place rm_lies 148 11 2 := ⟨⟨p0_rm_lies.1, p0_rm_lies.2.1, p0_rm_lies.2.2.1, p0_rm_lies.2.2.2.1, p0_rm_lies.2.2.2.2, by decide⟩, lw_a6 127 (by decide +kernel) rfl, lw_a6 129 (by decide +kernel) rfl, lw_a0 49 (by decide +kernel) rfl, _, _, rfl⟩
theorem pk_rm_place_166 : mj_KS rm_place rm_cell 166 3 := ⟨⟨p0_rm_cell.1, p0_rm_cell.2.1, p0_rm_cell.2.2.1, p0_rm_cell.2.2.2.1, p0_rm_cell.2.2.2.2, by decide⟩, lw_a6 183 (by decide +kernel) rfl, lw_a6 184 (by decide +kernel) rfl⟩
theorem pk_rm_stock_288 : mj_KV rm_stock rm_isFloor 288 11 1 := ⟨⟨p0_rm_isFloor.1, p0_rm_isFloor.2.1, p0_rm_isFloor.2.2.1, p0_rm_isFloor.2.2.2.1, p0_rm_isFloor.2.2.2.2, by decide⟩, lw_a7 114 (by decide +kernel) rfl, lw_a7 116 (by decide +kernel) rfl, lw_a0 75 (by decide +kernel) rfl, _, _, rfl⟩
theorem pk_rm_stock_145 : mj_KV rm_stock rm_isKind 145 11 1 := ⟨⟨p0_rm_isKind.1, p0_rm_isKind.2.1, p0_rm_isKind.2.2.1, p0_rm_isKind.2.2.2.1, p0_rm_isKind.2.2.2.2, by decide⟩, lw_a6 123 (by decide +kernel) rfl, lw_a6 125 (by decide +kernel) rfl, lw_a0 48 (by decide +kernel) rfl, _, _, rfl⟩
theorem pk_rm_shown_291 : mj_KV rm_shown rm_isPlace 291 11 3 := ⟨⟨p0_rm_isPlace.1, p0_rm_isPlace.2.1, p0_rm_isPlace.2.2.1, p0_rm_isPlace.2.2.2.1, p0_rm_isPlace.2.2.2.2, by decide⟩, lw_a7 110 (by decide +kernel) rfl, lw_a7 112 (by decide +kernel) rfl, lw_a0 74 (by decide +kernel) rfl, _, _, rfl⟩
theorem pk_rm_shown_156 : mj_KS rm_shown rm_kindOf 156 1 := ⟨⟨p0_rm_kindOf.1, p0_rm_kindOf.2.1, p0_rm_kindOf.2.2.1, p0_rm_kindOf.2.2.2.1, p0_rm_kindOf.2.2.2.2, by decide⟩, lw_a6 206 (by decide +kernel) rfl, lw_a6 207 (by decide +kernel) rfl⟩
theorem pk_rm_shown_160 : mj_KS rm_shown rm_moveOf 160 1 := ⟨⟨p0_rm_moveOf.1, p0_rm_moveOf.2.1, p0_rm_moveOf.2.2.1, p0_rm_moveOf.2.2.2.1, p0_rm_moveOf.2.2.2.2, by decide⟩, lw_a6 210 (by decide +kernel) rfl, lw_a6 211 (by decide +kernel) rfl⟩
theorem pf_rm_294 : mj_F RX12 294 11 42 55 false .int := ⟨_, _, rfl, by decide, rfl, rfl, rfl, lw_a5 209 (by decide +kernel) rfl⟩
theorem p0_rm_lyingAt : plainFor rm_lyingAt.1 = true ∧ rm_lyingAt.1 ≠ yL_law ∧ Cond.code rm_lyingAt.1 rm_lyingAt.2.1 rm_lyingAt.2.2.1 rm_lyingAt.2.2.2.1 ∈ lw_g ∧ Cond.initialized rm_lyingAt.1.cls ∈ lw_g ∧ (rm_lyingAt.1.cls ≠ "java/lang/invoke/MethodHandle" ∧ rm_lyingAt.1.cls ≠ "java/lang/invoke/VarHandle" ∧ (parseMethodDescriptor rm_lyingAt.1.desc).map (fun d => d.parameters.length) = some 2) := ⟨by decide +kernel, by decide +kernel, lw_a7 141 (by decide +kernel) rfl, lw_a1 10 (by decide +kernel) rfl, by decide +kernel, by decide +kernel, by decide +kernel⟩
theorem pk_rm_mayLie_297 : mj_KV rm_mayLie rm_lyingAt 297 11 2 := ⟨⟨p0_rm_lyingAt.1, p0_rm_lyingAt.2.1, p0_rm_lyingAt.2.2.1, p0_rm_lyingAt.2.2.2.1, p0_rm_lyingAt.2.2.2.2, by decide⟩, lw_a7 138 (by decide +kernel) rfl, lw_a7 140 (by decide +kernel) rfl, lw_a0 78 (by decide +kernel) rfl, _, _, rfl⟩
theorem pk_rm_mayLie_263 : mj_KV rm_mayLie rm_fit 263 11 3 := ⟨⟨p0_rm_fit.1, p0_rm_fit.2.1, p0_rm_fit.2.2.1, p0_rm_fit.2.2.2.1, p0_rm_fit.2.2.2.2, by decide⟩, lw_a7 58 (by decide +kernel) rfl, lw_a7 60 (by decide +kernel) rfl, lw_a0 67 (by decide +kernel) rfl, _, _, rfl⟩
theorem pk_rm_nextFitting_148 : mj_KV rm_nextFitting rm_lies 148 11 2 := ⟨⟨p0_rm_lies.1, p0_rm_lies.2.1, p0_rm_lies.2.2.1, p0_rm_lies.2.2.2.1, p0_rm_lies.2.2.2.2, by decide⟩, lw_a6 127 (by decide +kernel) rfl, lw_a6 129 (by decide +kernel) rfl, lw_a0 49 (by decide +kernel) rfl, _, _, rfl⟩
theorem pk_rm_nextFitting_166 : mj_KS rm_nextFitting rm_cell 166 3 := ⟨⟨p0_rm_cell.1, p0_rm_cell.2.1, p0_rm_cell.2.2.1, p0_rm_cell.2.2.2.1, p0_rm_cell.2.2.2.2, by decide⟩, lw_a6 183 (by decide +kernel) rfl, lw_a6 184 (by decide +kernel) rfl⟩
theorem p0_rm_mayLie : plainFor rm_mayLie.1 = true ∧ rm_mayLie.1 ≠ yL_law ∧ Cond.code rm_mayLie.1 rm_mayLie.2.1 rm_mayLie.2.2.1 rm_mayLie.2.2.2.1 ∈ lw_g ∧ Cond.initialized rm_mayLie.1.cls ∈ lw_g ∧ (rm_mayLie.1.cls ≠ "java/lang/invoke/MethodHandle" ∧ rm_mayLie.1.cls ≠ "java/lang/invoke/VarHandle" ∧ (parseMethodDescriptor rm_mayLie.1.desc).map (fun d => d.parameters.length) = some 2) := ⟨by decide +kernel, by decide +kernel, lw_a7 137 (by decide +kernel) rfl, lw_a1 10 (by decide +kernel) rfl, by decide +kernel, by decide +kernel, by decide +kernel⟩
theorem pk_rm_nextFitting_300 : mj_KV rm_nextFitting rm_mayLie 300 11 2 := ⟨⟨p0_rm_mayLie.1, p0_rm_mayLie.2.1, p0_rm_mayLie.2.2.1, p0_rm_mayLie.2.2.2.1, p0_rm_mayLie.2.2.2.2, by decide⟩, lw_a7 134 (by decide +kernel) rfl, lw_a7 136 (by decide +kernel) rfl, lw_a0 77 (by decide +kernel) rfl, _, _, rfl⟩
theorem p0_rm_nextFitting : plainFor rm_nextFitting.1 = true ∧ rm_nextFitting.1 ≠ yL_law ∧ Cond.code rm_nextFitting.1 rm_nextFitting.2.1 rm_nextFitting.2.2.1 rm_nextFitting.2.2.2.1 ∈ lw_g ∧ Cond.initialized rm_nextFitting.1.cls ∈ lw_g ∧ (rm_nextFitting.1.cls ≠ "java/lang/invoke/MethodHandle" ∧ rm_nextFitting.1.cls ≠ "java/lang/invoke/VarHandle" ∧ (parseMethodDescriptor rm_nextFitting.1.desc).map (fun d => d.parameters.length) = some 2) := ⟨by decide +kernel, by decide +kernel, lw_a7 161 (by decide +kernel) rfl, lw_a1 10 (by decide +kernel) rfl, by decide +kernel, by decide +kernel, by decide +kernel⟩
theorem pk_rm_fitting_304 : mj_KV rm_fitting rm_nextFitting 304 11 2 := ⟨⟨p0_rm_nextFitting.1, p0_rm_nextFitting.2.1, p0_rm_nextFitting.2.2.1, p0_rm_nextFitting.2.2.2.1, p0_rm_nextFitting.2.2.2.2, by decide⟩, lw_a7 158 (by decide +kernel) rfl, lw_a7 160 (by decide +kernel) rfl, lw_a0 83 (by decide +kernel) rfl, _, _, rfl⟩
theorem pf_rm_307 : mj_F RX12 307 11 43 55 false .int := ⟨_, _, rfl, by decide, rfl, rfl, rfl, lw_a5 210 (by decide +kernel) rfl⟩
theorem pk_rm_starts_300 : mj_KV rm_starts rm_mayLie 300 11 2 := ⟨⟨p0_rm_mayLie.1, p0_rm_mayLie.2.1, p0_rm_mayLie.2.2.1, p0_rm_mayLie.2.2.2.1, p0_rm_mayLie.2.2.2.2, by decide⟩, lw_a7 134 (by decide +kernel) rfl, lw_a7 136 (by decide +kernel) rfl, lw_a0 77 (by decide +kernel) rfl, _, _, rfl⟩
theorem p0_rm_fitting : plainFor rm_fitting.1 = true ∧ rm_fitting.1 ≠ yL_law ∧ Cond.code rm_fitting.1 rm_fitting.2.1 rm_fitting.2.2.1 rm_fitting.2.2.2.1 ∈ lw_g ∧ Cond.initialized rm_fitting.1.cls ∈ lw_g ∧ (rm_fitting.1.cls ≠ "java/lang/invoke/MethodHandle" ∧ rm_fitting.1.cls ≠ "java/lang/invoke/VarHandle" ∧ (parseMethodDescriptor rm_fitting.1.desc).map (fun d => d.parameters.length) = some 1) := ⟨by decide +kernel, by decide +kernel, lw_a7 157 (by decide +kernel) rfl, lw_a1 10 (by decide +kernel) rfl, by decide +kernel, by decide +kernel, by decide +kernel⟩
theorem pk_rm_nextPlace_310 : mj_KV rm_nextPlace rm_fitting 310 11 1 := ⟨⟨p0_rm_fitting.1, p0_rm_fitting.2.1, p0_rm_fitting.2.2.1, p0_rm_fitting.2.2.2.1, p0_rm_fitting.2.2.2.2, by decide⟩, lw_a7 154 (by decide +kernel) rfl, lw_a7 156 (by decide +kernel) rfl, lw_a0 82 (by decide +kernel) rfl, _, _, rfl⟩
theorem pk_rm_lay_166 : mj_KS rm_lay rm_cell 166 3 := ⟨⟨p0_rm_cell.1, p0_rm_cell.2.1, p0_rm_cell.2.2.1, p0_rm_cell.2.2.2.1, p0_rm_cell.2.2.2.2, by decide⟩, lw_a6 183 (by decide +kernel) rfl, lw_a6 184 (by decide +kernel) rfl⟩
theorem pf_rm_313 : mj_F RX12 313 11 52 55 false .int := ⟨_, _, rfl, by decide, rfl, rfl, rfl, lw_a5 219 (by decide +kernel) rfl⟩
theorem pk_rm_takeBack_156 : mj_KS rm_takeBack rm_kindOf 156 1 := ⟨⟨p0_rm_kindOf.1, p0_rm_kindOf.2.1, p0_rm_kindOf.2.2.1, p0_rm_kindOf.2.2.2.1, p0_rm_kindOf.2.2.2.2, by decide⟩, lw_a6 206 (by decide +kernel) rfl, lw_a6 207 (by decide +kernel) rfl⟩
theorem pf_rm_316 : mj_F RX12 316 11 50 55 false .int := ⟨_, _, rfl, by decide, rfl, rfl, rfl, lw_a5 217 (by decide +kernel) rfl⟩
theorem pf_rm_319 : mj_F RX12 319 11 51 55 false .int := ⟨_, _, rfl, by decide, rfl, rfl, rfl, lw_a5 218 (by decide +kernel) rfl⟩
theorem pf_rm_322 : mj_F RX12 322 11 53 55 false .int := ⟨_, _, rfl, by decide, rfl, rfl, rfl, lw_a5 220 (by decide +kernel) rfl⟩
theorem pf_rm_325 : mj_F RX12 325 11 54 55 false .boolean := ⟨_, _, rfl, by decide, rfl, rfl, rfl, lw_a5 221 (by decide +kernel) rfl⟩
theorem pf_rm_329 : mj_F RX12 329 11 49 55 false .int := ⟨_, _, rfl, by decide, rfl, rfl, rfl, lw_a5 216 (by decide +kernel) rfl⟩
theorem p0_rm_leastCost : plainFor rm_leastCost.1 = true ∧ rm_leastCost.1 ≠ yL_law ∧ Cond.code rm_leastCost.1 rm_leastCost.2.1 rm_leastCost.2.2.1 rm_leastCost.2.2.2.1 ∈ lw_g ∧ Cond.initialized rm_leastCost.1.cls ∈ lw_g ∧ (rm_leastCost.1.cls ≠ "java/lang/invoke/MethodHandle" ∧ rm_leastCost.1.cls ≠ "java/lang/invoke/VarHandle" ∧ (parseMethodDescriptor rm_leastCost.1.desc).map (fun d => d.parameters.length) = some 0) := ⟨by decide +kernel, by decide +kernel, lw_a7 149 (by decide +kernel) rfl, lw_a1 10 (by decide +kernel) rfl, by decide +kernel, by decide +kernel, by decide +kernel⟩
theorem pk_rm_search_332 : mj_KV rm_search rm_leastCost 332 11 0 := ⟨⟨p0_rm_leastCost.1, p0_rm_leastCost.2.1, p0_rm_leastCost.2.2.1, p0_rm_leastCost.2.2.2.1, p0_rm_leastCost.2.2.2.2, by decide⟩, lw_a7 146 (by decide +kernel) rfl, lw_a7 148 (by decide +kernel) rfl, lw_a0 80 (by decide +kernel) rfl, _, _, rfl⟩
theorem p0_rm_nextPlace : plainFor rm_nextPlace.1 = true ∧ rm_nextPlace.1 ≠ yL_law ∧ Cond.code rm_nextPlace.1 rm_nextPlace.2.1 rm_nextPlace.2.2.1 rm_nextPlace.2.2.2.1 ∈ lw_g ∧ Cond.initialized rm_nextPlace.1.cls ∈ lw_g ∧ (rm_nextPlace.1.cls ≠ "java/lang/invoke/MethodHandle" ∧ rm_nextPlace.1.cls ≠ "java/lang/invoke/VarHandle" ∧ (parseMethodDescriptor rm_nextPlace.1.desc).map (fun d => d.parameters.length) = some 0) := ⟨by decide +kernel, by decide +kernel, lw_a7 153 (by decide +kernel) rfl, lw_a1 10 (by decide +kernel) rfl, by decide +kernel, by decide +kernel, by decide +kernel⟩
theorem pk_rm_search_335 : mj_KV rm_search rm_nextPlace 335 11 0 := ⟨⟨p0_rm_nextPlace.1, p0_rm_nextPlace.2.1, p0_rm_nextPlace.2.2.1, p0_rm_nextPlace.2.2.2.1, p0_rm_nextPlace.2.2.2.2, by decide⟩, lw_a7 150 (by decide +kernel) rfl, lw_a7 152 (by decide +kernel) rfl, lw_a0 81 (by decide +kernel) rfl, _, _, rfl⟩
theorem p0_rm_show : plainFor rm_show.1 = true ∧ rm_show.1 ≠ yL_law ∧ Cond.code rm_show.1 rm_show.2.1 rm_show.2.2.1 rm_show.2.2.2.1 ∈ lw_g ∧ Cond.initialized rm_show.1.cls ∈ lw_g ∧ (rm_show.1.cls ≠ "java/lang/invoke/MethodHandle" ∧ rm_show.1.cls ≠ "java/lang/invoke/VarHandle" ∧ (parseMethodDescriptor rm_show.1.desc).map (fun d => d.parameters.length) = some 0) := ⟨by decide +kernel, by decide +kernel, lw_a7 165 (by decide +kernel) rfl, lw_a1 10 (by decide +kernel) rfl, by decide +kernel, by decide +kernel, by decide +kernel⟩
theorem pk_rm_search_338 : mj_KV rm_search rm_show 338 11 0 := ⟨⟨p0_rm_show.1, p0_rm_show.2.1, p0_rm_show.2.2.1, p0_rm_show.2.2.2.1, p0_rm_show.2.2.2.2, by decide⟩, lw_a7 162 (by decide +kernel) rfl, lw_a7 164 (by decide +kernel) rfl, lw_a0 84 (by decide +kernel) rfl, _, _, rfl⟩
theorem p0_rm_takeBack : plainFor rm_takeBack.1 = true ∧ rm_takeBack.1 ≠ yL_law ∧ Cond.code rm_takeBack.1 rm_takeBack.2.1 rm_takeBack.2.2.1 rm_takeBack.2.2.2.1 ∈ lw_g ∧ Cond.initialized rm_takeBack.1.cls ∈ lw_g ∧ (rm_takeBack.1.cls ≠ "java/lang/invoke/MethodHandle" ∧ rm_takeBack.1.cls ≠ "java/lang/invoke/VarHandle" ∧ (parseMethodDescriptor rm_takeBack.1.desc).map (fun d => d.parameters.length) = some 1) := ⟨by decide +kernel, by decide +kernel, lw_a7 169 (by decide +kernel) rfl, lw_a1 10 (by decide +kernel) rfl, by decide +kernel, by decide +kernel, by decide +kernel⟩
theorem pk_rm_search_341 : mj_KV rm_search rm_takeBack 341 11 1 := ⟨⟨p0_rm_takeBack.1, p0_rm_takeBack.2.1, p0_rm_takeBack.2.2.1, p0_rm_takeBack.2.2.2.1, p0_rm_takeBack.2.2.2.2, by decide⟩, lw_a7 166 (by decide +kernel) rfl, lw_a7 168 (by decide +kernel) rfl, lw_a0 85 (by decide +kernel) rfl, _, _, rfl⟩
theorem pk_rm_search_304 : mj_KV rm_search rm_nextFitting 304 11 2 := ⟨⟨p0_rm_nextFitting.1, p0_rm_nextFitting.2.1, p0_rm_nextFitting.2.2.1, p0_rm_nextFitting.2.2.2.1, p0_rm_nextFitting.2.2.2.2, by decide⟩, lw_a7 158 (by decide +kernel) rfl, lw_a7 160 (by decide +kernel) rfl, lw_a0 83 (by decide +kernel) rfl, _, _, rfl⟩
theorem pf_rm_344 : mj_F RX12 344 11 41 55 false .int := ⟨_, _, rfl, by decide, rfl, rfl, rfl, lw_a5 208 (by decide +kernel) rfl⟩
theorem pi_rm_347 : Cond.constant RX12 347 (600000) ∈ lw_g := lw_a7 170 (by decide +kernel) rfl
theorem p0_rm_lay : plainFor rm_lay.1 = true ∧ rm_lay.1 ≠ yL_law ∧ Cond.code rm_lay.1 rm_lay.2.1 rm_lay.2.2.1 rm_lay.2.2.2.1 ∈ lw_g ∧ Cond.initialized rm_lay.1.cls ∈ lw_g ∧ (rm_lay.1.cls ≠ "java/lang/invoke/MethodHandle" ∧ rm_lay.1.cls ≠ "java/lang/invoke/VarHandle" ∧ (parseMethodDescriptor rm_lay.1.desc).map (fun d => d.parameters.length) = some 2) := ⟨by decide +kernel, by decide +kernel, lw_a7 174 (by decide +kernel) rfl, lw_a1 10 (by decide +kernel) rfl, by decide +kernel, by decide +kernel, by decide +kernel⟩
theorem pk_rm_search_348 : mj_KV rm_search rm_lay 348 11 2 := ⟨⟨p0_rm_lay.1, p0_rm_lay.2.1, p0_rm_lay.2.2.1, p0_rm_lay.2.2.2.1, p0_rm_lay.2.2.2.2, by decide⟩, lw_a7 171 (by decide +kernel) rfl, lw_a7 173 (by decide +kernel) rfl, lw_a0 86 (by decide +kernel) rfl, _, _, rfl⟩
theorem pk_rm_fill_288 : mj_KV rm_fill rm_isFloor 288 11 1 := ⟨⟨p0_rm_isFloor.1, p0_rm_isFloor.2.1, p0_rm_isFloor.2.2.1, p0_rm_isFloor.2.2.2.1, p0_rm_isFloor.2.2.2.2, by decide⟩, lw_a7 114 (by decide +kernel) rfl, lw_a7 116 (by decide +kernel) rfl, lw_a0 75 (by decide +kernel) rfl, _, _, rfl⟩
theorem p0_rm_starts : plainFor rm_starts.1 = true ∧ rm_starts.1 ≠ yL_law ∧ Cond.code rm_starts.1 rm_starts.2.1 rm_starts.2.2.1 rm_starts.2.2.2.1 ∈ lw_g ∧ Cond.initialized rm_starts.1.cls ∈ lw_g ∧ (rm_starts.1.cls ≠ "java/lang/invoke/MethodHandle" ∧ rm_starts.1.cls ≠ "java/lang/invoke/VarHandle" ∧ (parseMethodDescriptor rm_starts.1.desc).map (fun d => d.parameters.length) = some 1) := ⟨by decide +kernel, by decide +kernel, lw_a7 133 (by decide +kernel) rfl, lw_a1 10 (by decide +kernel) rfl, by decide +kernel, by decide +kernel, by decide +kernel⟩
theorem pk_rm_fill_351 : mj_KV rm_fill rm_starts 351 11 1 := ⟨⟨p0_rm_starts.1, p0_rm_starts.2.1, p0_rm_starts.2.2.1, p0_rm_starts.2.2.2.1, p0_rm_starts.2.2.2.2, by decide⟩, lw_a7 130 (by decide +kernel) rfl, lw_a7 132 (by decide +kernel) rfl, lw_a0 76 (by decide +kernel) rfl, _, _, rfl⟩
theorem p0_rm_search : plainFor rm_search.1 = true ∧ rm_search.1 ≠ yL_law ∧ Cond.code rm_search.1 rm_search.2.1 rm_search.2.2.1 rm_search.2.2.2.1 ∈ lw_g ∧ Cond.initialized rm_search.1.cls ∈ lw_g ∧ (rm_search.1.cls ≠ "java/lang/invoke/MethodHandle" ∧ rm_search.1.cls ≠ "java/lang/invoke/VarHandle" ∧ (parseMethodDescriptor rm_search.1.desc).map (fun d => d.parameters.length) = some 2) := ⟨by decide +kernel, by decide +kernel, lw_a7 145 (by decide +kernel) rfl, lw_a1 10 (by decide +kernel) rfl, by decide +kernel, by decide +kernel, by decide +kernel⟩
theorem pk_rm_fill_354 : mj_KV rm_fill rm_search 354 11 2 := ⟨⟨p0_rm_search.1, p0_rm_search.2.1, p0_rm_search.2.2.1, p0_rm_search.2.2.2.1, p0_rm_search.2.2.2.2, by decide⟩, lw_a7 142 (by decide +kernel) rfl, lw_a7 144 (by decide +kernel) rfl, lw_a0 79 (by decide +kernel) rfl, _, _, rfl⟩
theorem pk_rm_fills_288 : mj_KV rm_fills rm_isFloor 288 11 1 := ⟨⟨p0_rm_isFloor.1, p0_rm_isFloor.2.1, p0_rm_isFloor.2.2.1, p0_rm_isFloor.2.2.2.1, p0_rm_isFloor.2.2.2.2, by decide⟩, lw_a7 114 (by decide +kernel) rfl, lw_a7 116 (by decide +kernel) rfl, lw_a0 75 (by decide +kernel) rfl, _, _, rfl⟩
theorem pk_rm_fills_351 : mj_KV rm_fills rm_starts 351 11 1 := ⟨⟨p0_rm_starts.1, p0_rm_starts.2.1, p0_rm_starts.2.2.1, p0_rm_starts.2.2.2.1, p0_rm_starts.2.2.2.2, by decide⟩, lw_a7 130 (by decide +kernel) rfl, lw_a7 132 (by decide +kernel) rfl, lw_a0 76 (by decide +kernel) rfl, _, _, rfl⟩
theorem pk_rm_fills_354 : mj_KV rm_fills rm_search 354 11 2 := ⟨⟨p0_rm_search.1, p0_rm_search.2.1, p0_rm_search.2.2.1, p0_rm_search.2.2.2.1, p0_rm_search.2.2.2.2, by decide⟩, lw_a7 142 (by decide +kernel) rfl, lw_a7 144 (by decide +kernel) rfl, lw_a0 79 (by decide +kernel) rfl, _, _, rfl⟩
theorem pk_rm_cheapest_288 : mj_KV rm_cheapest rm_isFloor 288 11 1 := ⟨⟨p0_rm_isFloor.1, p0_rm_isFloor.2.1, p0_rm_isFloor.2.2.1, p0_rm_isFloor.2.2.2.1, p0_rm_isFloor.2.2.2.2, by decide⟩, lw_a7 114 (by decide +kernel) rfl, lw_a7 116 (by decide +kernel) rfl, lw_a0 75 (by decide +kernel) rfl, _, _, rfl⟩
theorem pk_rm_cheapest_351 : mj_KV rm_cheapest rm_starts 351 11 1 := ⟨⟨p0_rm_starts.1, p0_rm_starts.2.1, p0_rm_starts.2.2.1, p0_rm_starts.2.2.2.1, p0_rm_starts.2.2.2.2, by decide⟩, lw_a7 130 (by decide +kernel) rfl, lw_a7 132 (by decide +kernel) rfl, lw_a0 76 (by decide +kernel) rfl, _, _, rfl⟩
theorem pi_rm_358 : Cond.constant RX12 358 (1000000) ∈ lw_g := lw_a7 183 (by decide +kernel) rfl
theorem pk_rm_cheapest_354 : mj_KV rm_cheapest rm_search 354 11 2 := ⟨⟨p0_rm_search.1, p0_rm_search.2.1, p0_rm_search.2.2.1, p0_rm_search.2.2.2.1, p0_rm_search.2.2.2.2, by decide⟩, lw_a7 142 (by decide +kernel) rfl, lw_a7 144 (by decide +kernel) rfl, lw_a0 79 (by decide +kernel) rfl, _, _, rfl⟩
theorem pk_rm_forced_288 : mj_KV rm_forced rm_isFloor 288 11 1 := ⟨⟨p0_rm_isFloor.1, p0_rm_isFloor.2.1, p0_rm_isFloor.2.2.1, p0_rm_isFloor.2.2.2.1, p0_rm_isFloor.2.2.2.2, by decide⟩, lw_a7 114 (by decide +kernel) rfl, lw_a7 116 (by decide +kernel) rfl, lw_a0 75 (by decide +kernel) rfl, _, _, rfl⟩
theorem pk_rm_forced_351 : mj_KV rm_forced rm_starts 351 11 1 := ⟨⟨p0_rm_starts.1, p0_rm_starts.2.1, p0_rm_starts.2.2.1, p0_rm_starts.2.2.2.1, p0_rm_starts.2.2.2.2, by decide⟩, lw_a7 130 (by decide +kernel) rfl, lw_a7 132 (by decide +kernel) rfl, lw_a0 76 (by decide +kernel) rfl, _, _, rfl⟩
theorem pk_rm_forced_310 : mj_KV rm_forced rm_fitting 310 11 1 := ⟨⟨p0_rm_fitting.1, p0_rm_fitting.2.1, p0_rm_fitting.2.2.1, p0_rm_fitting.2.2.2.1, p0_rm_fitting.2.2.2.2, by decide⟩, lw_a7 154 (by decide +kernel) rfl, lw_a7 156 (by decide +kernel) rfl, lw_a0 82 (by decide +kernel) rfl, _, _, rfl⟩
theorem pk_rm_forced_304 : mj_KV rm_forced rm_nextFitting 304 11 2 := ⟨⟨p0_rm_nextFitting.1, p0_rm_nextFitting.2.1, p0_rm_nextFitting.2.2.1, p0_rm_nextFitting.2.2.2.1, p0_rm_nextFitting.2.2.2.2, by decide⟩, lw_a7 158 (by decide +kernel) rfl, lw_a7 160 (by decide +kernel) rfl, lw_a0 83 (by decide +kernel) rfl, _, _, rfl⟩
theorem pk_rm_forced_166 : mj_KS rm_forced rm_cell 166 3 := ⟨⟨p0_rm_cell.1, p0_rm_cell.2.1, p0_rm_cell.2.2.1, p0_rm_cell.2.2.2.1, p0_rm_cell.2.2.2.2, by decide⟩, lw_a6 183 (by decide +kernel) rfl, lw_a6 184 (by decide +kernel) rfl⟩
theorem pk_rm_forced_300 : mj_KV rm_forced rm_mayLie 300 11 2 := ⟨⟨p0_rm_mayLie.1, p0_rm_mayLie.2.1, p0_rm_mayLie.2.2.1, p0_rm_mayLie.2.2.2.1, p0_rm_mayLie.2.2.2.2, by decide⟩, lw_a7 134 (by decide +kernel) rfl, lw_a7 136 (by decide +kernel) rfl, lw_a0 77 (by decide +kernel) rfl, _, _, rfl⟩
theorem pk_rm_forced_348 : mj_KV rm_forced rm_lay 348 11 2 := ⟨⟨p0_rm_lay.1, p0_rm_lay.2.1, p0_rm_lay.2.2.1, p0_rm_lay.2.2.2.1, p0_rm_lay.2.2.2.2, by decide⟩, lw_a7 171 (by decide +kernel) rfl, lw_a7 173 (by decide +kernel) rfl, lw_a0 86 (by decide +kernel) rfl, _, _, rfl⟩
theorem pk_rm_forced_338 : mj_KV rm_forced rm_show 338 11 0 := ⟨⟨p0_rm_show.1, p0_rm_show.2.1, p0_rm_show.2.2.1, p0_rm_show.2.2.2.1, p0_rm_show.2.2.2.2, by decide⟩, lw_a7 162 (by decide +kernel) rfl, lw_a7 164 (by decide +kernel) rfl, lw_a0 84 (by decide +kernel) rfl, _, _, rfl⟩
theorem pi_jdInteger_264 : Cond.constant RJ6 264 (65536) ∈ lw_g := lw_a5 59 (by decide +kernel) rfl
theorem pi_jdInteger_265 : Cond.constant RJ6 265 (1431655765) ∈ lw_g := lw_a4 94 (by decide +kernel) rfl
theorem pi_jdInteger_266 : Cond.constant RJ6 266 (858993459) ∈ lw_g := lw_a4 95 (by decide +kernel) rfl
theorem pi_jdInteger_267 : Cond.constant RJ6 267 (252645135) ∈ lw_g := lw_a4 96 (by decide +kernel) rfl
theorem p0_jd_ntzI : plainFor jd_ntzI.1 = true ∧ jd_ntzI.1 ≠ yL_law ∧ Cond.code jd_ntzI.1 jd_ntzI.2.1 jd_ntzI.2.2.1 jd_ntzI.2.2.2.1 ∈ lw_g ∧ Cond.initialized jd_ntzI.1.cls ∈ lw_g ∧ (jd_ntzI.1.cls ≠ "java/lang/invoke/MethodHandle" ∧ jd_ntzI.1.cls ≠ "java/lang/invoke/VarHandle" ∧ (parseMethodDescriptor jd_ntzI.1.desc).map (fun d => d.parameters.length) = some 1) := ⟨by decide +kernel, by decide +kernel, lw_a5 58 (by decide +kernel) rfl, lw_a1 16 (by decide +kernel) rfl, by decide +kernel, by decide +kernel, by decide +kernel⟩
theorem pk_jd_ntzL_311 : mj_KS jd_ntzL jd_ntzI 311 1 := ⟨⟨p0_jd_ntzI.1, p0_jd_ntzI.2.1, p0_jd_ntzI.2.2.1, p0_jd_ntzI.2.2.2.1, p0_jd_ntzI.2.2.2.2, by decide⟩, lw_a5 56 (by decide +kernel) rfl, lw_a5 57 (by decide +kernel) rfl⟩
theorem pi_jdLong_314 : Cond.constantLong RJ13 314 (6148914691236517205) ∈ lw_g := lw_a5 0 (by decide +kernel) rfl
theorem pi_jdLong_316 : Cond.constantLong RJ13 316 (3689348814741910323) ∈ lw_g := lw_a5 1 (by decide +kernel) rfl
theorem pi_jdLong_318 : Cond.constantLong RJ13 318 (1085102592571150095) ∈ lw_g := lw_a5 2 (by decide +kernel) rfl
theorem pc_law_7 : Cond.classLink RL 7 RX11 ∈ lw_g := lw_a1 19 (by decide +kernel) rfl
theorem p0_to_init : plainFor to_init.1 = true ∧ to_init.1 ≠ yL_law ∧ Cond.code to_init.1 to_init.2.1 to_init.2.2.1 to_init.2.2.2.1 ∈ lw_g ∧ Cond.initialized to_init.1.cls ∈ lw_g ∧ (to_init.1.cls ≠ "java/lang/invoke/MethodHandle" ∧ to_init.1.cls ≠ "java/lang/invoke/VarHandle" ∧ (parseMethodDescriptor to_init.1.desc).map (fun d => d.parameters.length) = some 0) := ⟨by decide +kernel, by decide +kernel, lw_a1 23 (by decide +kernel) rfl, lw_a1 1 (by decide +kernel) rfl, by decide +kernel, by decide +kernel, by decide +kernel⟩
theorem pk_law_9 : mj_KI law to_init 9 0 := ⟨⟨p0_to_init.1, p0_to_init.2.1, p0_to_init.2.2.1, p0_to_init.2.2.2.1, p0_to_init.2.2.2.2, by decide⟩, lw_a1 21 (by decide +kernel) rfl, lw_a1 22 (by decide +kernel) rfl, rfl, rfl⟩
theorem pc_law_10 : Cond.classLink RL 10 RX12 ∈ lw_g := lw_a5 160 (by decide +kernel) rfl
theorem p0_rm_init : plainFor rm_init.1 = true ∧ rm_init.1 ≠ yL_law ∧ Cond.code rm_init.1 rm_init.2.1 rm_init.2.2.1 rm_init.2.2.2.1 ∈ lw_g ∧ Cond.initialized rm_init.1.cls ∈ lw_g ∧ (rm_init.1.cls ≠ "java/lang/invoke/MethodHandle" ∧ rm_init.1.cls ≠ "java/lang/invoke/VarHandle" ∧ (parseMethodDescriptor rm_init.1.desc).map (fun d => d.parameters.length) = some 0) := ⟨by decide +kernel, by decide +kernel, lw_a5 164 (by decide +kernel) rfl, lw_a1 10 (by decide +kernel) rfl, by decide +kernel, by decide +kernel, by decide +kernel⟩
theorem pk_law_12 : mj_KI law rm_init 12 0 := ⟨⟨p0_rm_init.1, p0_rm_init.2.1, p0_rm_init.2.2.1, p0_rm_init.2.2.2.1, p0_rm_init.2.2.2.2, by decide⟩, lw_a5 162 (by decide +kernel) rfl, lw_a5 163 (by decide +kernel) rfl, rfl, rfl⟩
theorem pi_law_13 : Cond.constantLong RL 13 (4294967295) ∈ lw_g := lw_a7 192 (by decide +kernel) rfl
theorem p0_to_kind : plainFor to_kind.1 = true ∧ to_kind.1 ≠ yL_law ∧ Cond.code to_kind.1 to_kind.2.1 to_kind.2.2.1 to_kind.2.2.2.1 ∈ lw_g ∧ Cond.initialized to_kind.1.cls ∈ lw_g ∧ (to_kind.1.cls ≠ "java/lang/invoke/MethodHandle" ∧ to_kind.1.cls ≠ "java/lang/invoke/VarHandle" ∧ (parseMethodDescriptor to_kind.1.desc).map (fun d => d.parameters.length) = some 5) := ⟨by decide +kernel, by decide +kernel, lw_a2 53 (by decide +kernel) rfl, lw_a1 1 (by decide +kernel) rfl, by decide +kernel, by decide +kernel, by decide +kernel⟩
theorem pk_law_15 : mj_KV law to_kind 15 10 5 := ⟨⟨p0_to_kind.1, p0_to_kind.2.1, p0_to_kind.2.2.1, p0_to_kind.2.2.2.1, p0_to_kind.2.2.2.2, by decide⟩, lw_a2 50 (by decide +kernel) rfl, lw_a2 51 (by decide +kernel) rfl, lw_a2 52 (by decide +kernel) rfl, _, _, rfl⟩
theorem p0_rm_kind : plainFor rm_kind.1 = true ∧ rm_kind.1 ≠ yL_law ∧ Cond.code rm_kind.1 rm_kind.2.1 rm_kind.2.2.1 rm_kind.2.2.2.1 ∈ lw_g ∧ Cond.initialized rm_kind.1.cls ∈ lw_g ∧ (rm_kind.1.cls ≠ "java/lang/invoke/MethodHandle" ∧ rm_kind.1.cls ≠ "java/lang/invoke/VarHandle" ∧ (parseMethodDescriptor rm_kind.1.desc).map (fun d => d.parameters.length) = some 5) := ⟨by decide +kernel, by decide +kernel, lw_a6 96 (by decide +kernel) rfl, lw_a1 10 (by decide +kernel) rfl, by decide +kernel, by decide +kernel, by decide +kernel⟩
theorem pk_law_19 : mj_KV law rm_kind 19 11 5 := ⟨⟨p0_rm_kind.1, p0_rm_kind.2.1, p0_rm_kind.2.2.1, p0_rm_kind.2.2.2.1, p0_rm_kind.2.2.2.2, by decide⟩, lw_a6 93 (by decide +kernel) rfl, lw_a6 94 (by decide +kernel) rfl, lw_a6 95 (by decide +kernel) rfl, _, _, rfl⟩
theorem p0_to_named : plainFor to_named.1 = true ∧ to_named.1 ≠ yL_law ∧ Cond.code to_named.1 to_named.2.1 to_named.2.2.1 to_named.2.2.2.1 ∈ lw_g ∧ Cond.initialized to_named.1.cls ∈ lw_g ∧ (to_named.1.cls ≠ "java/lang/invoke/MethodHandle" ∧ to_named.1.cls ≠ "java/lang/invoke/VarHandle" ∧ (parseMethodDescriptor to_named.1.desc).map (fun d => d.parameters.length) = some 1) := ⟨by decide +kernel, by decide +kernel, lw_a2 80 (by decide +kernel) rfl, lw_a1 1 (by decide +kernel) rfl, by decide +kernel, by decide +kernel, by decide +kernel⟩
theorem pk_law_20 : mj_KV law to_named 20 10 1 := ⟨⟨p0_to_named.1, p0_to_named.2.1, p0_to_named.2.2.1, p0_to_named.2.2.2.1, p0_to_named.2.2.2.2, by decide⟩, lw_a2 77 (by decide +kernel) rfl, lw_a2 78 (by decide +kernel) rfl, lw_a2 79 (by decide +kernel) rfl, _, _, rfl⟩
theorem pk_law_24 : mj_KV law rm_named 24 11 1 := ⟨⟨p0_rm_named.1, p0_rm_named.2.1, p0_rm_named.2.2.1, p0_rm_named.2.2.2.1, p0_rm_named.2.2.2.2, by decide⟩, lw_a6 108 (by decide +kernel) rfl, lw_a6 105 (by decide +kernel) rfl, lw_a6 106 (by decide +kernel) rfl, _, _, rfl⟩
theorem p0_to_edge : plainFor to_edge.1 = true ∧ to_edge.1 ≠ yL_law ∧ Cond.code to_edge.1 to_edge.2.1 to_edge.2.2.1 to_edge.2.2.2.1 ∈ lw_g ∧ Cond.initialized to_edge.1.cls ∈ lw_g ∧ (to_edge.1.cls ≠ "java/lang/invoke/MethodHandle" ∧ to_edge.1.cls ≠ "java/lang/invoke/VarHandle" ∧ (parseMethodDescriptor to_edge.1.desc).map (fun d => d.parameters.length) = some 3) := ⟨by decide +kernel, by decide +kernel, lw_a2 84 (by decide +kernel) rfl, lw_a1 1 (by decide +kernel) rfl, by decide +kernel, by decide +kernel, by decide +kernel⟩
theorem pk_law_25 : mj_KV law to_edge 25 10 3 := ⟨⟨p0_to_edge.1, p0_to_edge.2.1, p0_to_edge.2.2.1, p0_to_edge.2.2.2.1, p0_to_edge.2.2.2.2, by decide⟩, lw_a2 81 (by decide +kernel) rfl, lw_a2 82 (by decide +kernel) rfl, lw_a2 83 (by decide +kernel) rfl, _, _, rfl⟩
theorem p0_rm_edge : plainFor rm_edge.1 = true ∧ rm_edge.1 ≠ yL_law ∧ Cond.code rm_edge.1 rm_edge.2.1 rm_edge.2.2.1 rm_edge.2.2.2.1 ∈ lw_g ∧ Cond.initialized rm_edge.1.cls ∈ lw_g ∧ (rm_edge.1.cls ≠ "java/lang/invoke/MethodHandle" ∧ rm_edge.1.cls ≠ "java/lang/invoke/VarHandle" ∧ (parseMethodDescriptor rm_edge.1.desc).map (fun d => d.parameters.length) = some 3) := ⟨by decide +kernel, by decide +kernel, lw_a6 122 (by decide +kernel) rfl, lw_a1 10 (by decide +kernel) rfl, by decide +kernel, by decide +kernel, by decide +kernel⟩
theorem pk_law_29 : mj_KV law rm_edge 29 11 3 := ⟨⟨p0_rm_edge.1, p0_rm_edge.2.1, p0_rm_edge.2.2.1, p0_rm_edge.2.2.2.1, p0_rm_edge.2.2.2.2, by decide⟩, lw_a6 119 (by decide +kernel) rfl, lw_a6 120 (by decide +kernel) rfl, lw_a6 121 (by decide +kernel) rfl, _, _, rfl⟩
theorem p0_to_then : plainFor to_then.1 = true ∧ to_then.1 ≠ yL_law ∧ Cond.code to_then.1 to_then.2.1 to_then.2.2.1 to_then.2.2.2.1 ∈ lw_g ∧ Cond.initialized to_then.1.cls ∈ lw_g ∧ (to_then.1.cls ≠ "java/lang/invoke/MethodHandle" ∧ to_then.1.cls ≠ "java/lang/invoke/VarHandle" ∧ (parseMethodDescriptor to_then.1.desc).map (fun d => d.parameters.length) = some 2) := ⟨by decide +kernel, by decide +kernel, lw_a2 103 (by decide +kernel) rfl, lw_a1 1 (by decide +kernel) rfl, by decide +kernel, by decide +kernel, by decide +kernel⟩
theorem pk_law_30 : mj_KV law to_then 30 10 2 := ⟨⟨p0_to_then.1, p0_to_then.2.1, p0_to_then.2.2.1, p0_to_then.2.2.2.1, p0_to_then.2.2.2.2, by decide⟩, lw_a2 100 (by decide +kernel) rfl, lw_a2 101 (by decide +kernel) rfl, lw_a2 102 (by decide +kernel) rfl, _, _, rfl⟩
theorem p0_rm_then : plainFor rm_then.1 = true ∧ rm_then.1 ≠ yL_law ∧ Cond.code rm_then.1 rm_then.2.1 rm_then.2.2.1 rm_then.2.2.2.1 ∈ lw_g ∧ Cond.initialized rm_then.1.cls ∈ lw_g ∧ (rm_then.1.cls ≠ "java/lang/invoke/MethodHandle" ∧ rm_then.1.cls ≠ "java/lang/invoke/VarHandle" ∧ (parseMethodDescriptor rm_then.1.desc).map (fun d => d.parameters.length) = some 2) := ⟨by decide +kernel, by decide +kernel, lw_a6 112 (by decide +kernel) rfl, lw_a1 10 (by decide +kernel) rfl, by decide +kernel, by decide +kernel, by decide +kernel⟩
theorem pk_law_34 : mj_KV law rm_then 34 11 2 := ⟨⟨p0_rm_then.1, p0_rm_then.2.1, p0_rm_then.2.2.1, p0_rm_then.2.2.2.1, p0_rm_then.2.2.2.2, by decide⟩, lw_a6 109 (by decide +kernel) rfl, lw_a6 110 (by decide +kernel) rfl, lw_a6 111 (by decide +kernel) rfl, _, _, rfl⟩
theorem p0_to_pattern : plainFor to_pattern.1 = true ∧ to_pattern.1 ≠ yL_law ∧ Cond.code to_pattern.1 to_pattern.2.1 to_pattern.2.2.1 to_pattern.2.2.2.1 ∈ lw_g ∧ Cond.initialized to_pattern.1.cls ∈ lw_g ∧ (to_pattern.1.cls ≠ "java/lang/invoke/MethodHandle" ∧ to_pattern.1.cls ≠ "java/lang/invoke/VarHandle" ∧ (parseMethodDescriptor to_pattern.1.desc).map (fun d => d.parameters.length) = some 0) := ⟨by decide +kernel, by decide +kernel, lw_a2 110 (by decide +kernel) rfl, lw_a1 1 (by decide +kernel) rfl, by decide +kernel, by decide +kernel, by decide +kernel⟩
theorem pk_law_35 : mj_KV law to_pattern 35 10 0 := ⟨⟨p0_to_pattern.1, p0_to_pattern.2.1, p0_to_pattern.2.2.1, p0_to_pattern.2.2.2.1, p0_to_pattern.2.2.2.2, by decide⟩, lw_a2 107 (by decide +kernel) rfl, lw_a2 108 (by decide +kernel) rfl, lw_a2 109 (by decide +kernel) rfl, _, _, rfl⟩
theorem pk_law_39 : mj_KV law rm_pattern 39 11 0 := ⟨⟨p0_rm_pattern.1, p0_rm_pattern.2.1, p0_rm_pattern.2.2.1, p0_rm_pattern.2.2.2.1, p0_rm_pattern.2.2.2.2, by decide⟩, lw_a6 139 (by decide +kernel) rfl, lw_a6 140 (by decide +kernel) rfl, lw_a6 141 (by decide +kernel) rfl, _, _, rfl⟩
theorem p0_to_insert : plainFor to_insert.1 = true ∧ to_insert.1 ≠ yL_law ∧ Cond.code to_insert.1 to_insert.2.1 to_insert.2.2.1 to_insert.2.2.2.1 ∈ lw_g ∧ Cond.initialized to_insert.1.cls ∈ lw_g ∧ (to_insert.1.cls ≠ "java/lang/invoke/MethodHandle" ∧ to_insert.1.cls ≠ "java/lang/invoke/VarHandle" ∧ (parseMethodDescriptor to_insert.1.desc).map (fun d => d.parameters.length) = some 4) := ⟨by decide +kernel, by decide +kernel, lw_a2 138 (by decide +kernel) rfl, lw_a1 1 (by decide +kernel) rfl, by decide +kernel, by decide +kernel, by decide +kernel⟩
theorem pk_law_40 : mj_KV law to_insert 40 10 4 := ⟨⟨p0_to_insert.1, p0_to_insert.2.1, p0_to_insert.2.2.1, p0_to_insert.2.2.2.1, p0_to_insert.2.2.2.2, by decide⟩, lw_a2 135 (by decide +kernel) rfl, lw_a2 136 (by decide +kernel) rfl, lw_a2 137 (by decide +kernel) rfl, _, _, rfl⟩
theorem p0_rm_insert : plainFor rm_insert.1 = true ∧ rm_insert.1 ≠ yL_law ∧ Cond.code rm_insert.1 rm_insert.2.1 rm_insert.2.2.1 rm_insert.2.2.2.1 ∈ lw_g ∧ Cond.initialized rm_insert.1.cls ∈ lw_g ∧ (rm_insert.1.cls ≠ "java/lang/invoke/MethodHandle" ∧ rm_insert.1.cls ≠ "java/lang/invoke/VarHandle" ∧ (parseMethodDescriptor rm_insert.1.desc).map (fun d => d.parameters.length) = some 4) := ⟨by decide +kernel, by decide +kernel, lw_a6 146 (by decide +kernel) rfl, lw_a1 10 (by decide +kernel) rfl, by decide +kernel, by decide +kernel, by decide +kernel⟩
theorem pk_law_44 : mj_KV law rm_insert 44 11 4 := ⟨⟨p0_rm_insert.1, p0_rm_insert.2.1, p0_rm_insert.2.2.1, p0_rm_insert.2.2.2.1, p0_rm_insert.2.2.2.2, by decide⟩, lw_a6 143 (by decide +kernel) rfl, lw_a6 144 (by decide +kernel) rfl, lw_a6 145 (by decide +kernel) rfl, _, _, rfl⟩
theorem p0_to_remove : plainFor to_remove.1 = true ∧ to_remove.1 ≠ yL_law ∧ Cond.code to_remove.1 to_remove.2.1 to_remove.2.2.1 to_remove.2.2.2.1 ∈ lw_g ∧ Cond.initialized to_remove.1.cls ∈ lw_g ∧ (to_remove.1.cls ≠ "java/lang/invoke/MethodHandle" ∧ to_remove.1.cls ≠ "java/lang/invoke/VarHandle" ∧ (parseMethodDescriptor to_remove.1.desc).map (fun d => d.parameters.length) = some 2) := ⟨by decide +kernel, by decide +kernel, lw_a2 180 (by decide +kernel) rfl, lw_a1 1 (by decide +kernel) rfl, by decide +kernel, by decide +kernel, by decide +kernel⟩
theorem pk_law_45 : mj_KV law to_remove 45 10 2 := ⟨⟨p0_to_remove.1, p0_to_remove.2.1, p0_to_remove.2.2.1, p0_to_remove.2.2.2.1, p0_to_remove.2.2.2.2, by decide⟩, lw_a2 177 (by decide +kernel) rfl, lw_a2 178 (by decide +kernel) rfl, lw_a2 179 (by decide +kernel) rfl, _, _, rfl⟩
theorem p0_rm_remove : plainFor rm_remove.1 = true ∧ rm_remove.1 ≠ yL_law ∧ Cond.code rm_remove.1 rm_remove.2.1 rm_remove.2.2.1 rm_remove.2.2.2.1 ∈ lw_g ∧ Cond.initialized rm_remove.1.cls ∈ lw_g ∧ (rm_remove.1.cls ≠ "java/lang/invoke/MethodHandle" ∧ rm_remove.1.cls ≠ "java/lang/invoke/VarHandle" ∧ (parseMethodDescriptor rm_remove.1.desc).map (fun d => d.parameters.length) = some 2) := ⟨by decide +kernel, by decide +kernel, lw_a6 166 (by decide +kernel) rfl, lw_a1 10 (by decide +kernel) rfl, by decide +kernel, by decide +kernel, by decide +kernel⟩
theorem pk_law_49 : mj_KV law rm_remove 49 11 2 := ⟨⟨p0_rm_remove.1, p0_rm_remove.2.1, p0_rm_remove.2.2.1, p0_rm_remove.2.2.2.1, p0_rm_remove.2.2.2.2, by decide⟩, lw_a6 163 (by decide +kernel) rfl, lw_a6 164 (by decide +kernel) rfl, lw_a6 165 (by decide +kernel) rfl, _, _, rfl⟩
theorem p0_to_move : plainFor to_move.1 = true ∧ to_move.1 ≠ yL_law ∧ Cond.code to_move.1 to_move.2.1 to_move.2.2.1 to_move.2.2.2.1 ∈ lw_g ∧ Cond.initialized to_move.1.cls ∈ lw_g ∧ (to_move.1.cls ≠ "java/lang/invoke/MethodHandle" ∧ to_move.1.cls ≠ "java/lang/invoke/VarHandle" ∧ (parseMethodDescriptor to_move.1.desc).map (fun d => d.parameters.length) = some 3) := ⟨by decide +kernel, by decide +kernel, lw_a2 193 (by decide +kernel) rfl, lw_a1 1 (by decide +kernel) rfl, by decide +kernel, by decide +kernel, by decide +kernel⟩
theorem pk_law_50 : mj_KV law to_move 50 10 3 := ⟨⟨p0_to_move.1, p0_to_move.2.1, p0_to_move.2.2.1, p0_to_move.2.2.2.1, p0_to_move.2.2.2.2, by decide⟩, lw_a2 190 (by decide +kernel) rfl, lw_a2 191 (by decide +kernel) rfl, lw_a2 192 (by decide +kernel) rfl, _, _, rfl⟩
theorem p0_rm_move : plainFor rm_move.1 = true ∧ rm_move.1 ≠ yL_law ∧ Cond.code rm_move.1 rm_move.2.1 rm_move.2.2.1 rm_move.2.2.2.1 ∈ lw_g ∧ Cond.initialized rm_move.1.cls ∈ lw_g ∧ (rm_move.1.cls ≠ "java/lang/invoke/MethodHandle" ∧ rm_move.1.cls ≠ "java/lang/invoke/VarHandle" ∧ (parseMethodDescriptor rm_move.1.desc).map (fun d => d.parameters.length) = some 3) := ⟨by decide +kernel, by decide +kernel, lw_a6 174 (by decide +kernel) rfl, lw_a1 10 (by decide +kernel) rfl, by decide +kernel, by decide +kernel, by decide +kernel⟩
theorem pk_law_54 : mj_KV law rm_move 54 11 3 := ⟨⟨p0_rm_move.1, p0_rm_move.2.1, p0_rm_move.2.2.1, p0_rm_move.2.2.2.1, p0_rm_move.2.2.2.2, by decide⟩, lw_a6 171 (by decide +kernel) rfl, lw_a6 172 (by decide +kernel) rfl, lw_a6 173 (by decide +kernel) rfl, _, _, rfl⟩
theorem p0_to_put : plainFor to_put.1 = true ∧ to_put.1 ≠ yL_law ∧ Cond.code to_put.1 to_put.2.1 to_put.2.2.1 to_put.2.2.2.1 ∈ lw_g ∧ Cond.initialized to_put.1.cls ∈ lw_g ∧ (to_put.1.cls ≠ "java/lang/invoke/MethodHandle" ∧ to_put.1.cls ≠ "java/lang/invoke/VarHandle" ∧ (parseMethodDescriptor to_put.1.desc).map (fun d => d.parameters.length) = some 5) := ⟨by decide +kernel, by decide +kernel, lw_a2 201 (by decide +kernel) rfl, lw_a1 1 (by decide +kernel) rfl, by decide +kernel, by decide +kernel, by decide +kernel⟩
theorem pk_law_55 : mj_KV law to_put 55 10 5 := ⟨⟨p0_to_put.1, p0_to_put.2.1, p0_to_put.2.2.1, p0_to_put.2.2.2.1, p0_to_put.2.2.2.2, by decide⟩, lw_a2 198 (by decide +kernel) rfl, lw_a2 199 (by decide +kernel) rfl, lw_a2 200 (by decide +kernel) rfl, _, _, rfl⟩
theorem p0_rm_put : plainFor rm_put.1 = true ∧ rm_put.1 ≠ yL_law ∧ Cond.code rm_put.1 rm_put.2.1 rm_put.2.2.1 rm_put.2.2.2.1 ∈ lw_g ∧ Cond.initialized rm_put.1.cls ∈ lw_g ∧ (rm_put.1.cls ≠ "java/lang/invoke/MethodHandle" ∧ rm_put.1.cls ≠ "java/lang/invoke/VarHandle" ∧ (parseMethodDescriptor rm_put.1.desc).map (fun d => d.parameters.length) = some 5) := ⟨by decide +kernel, by decide +kernel, lw_a6 178 (by decide +kernel) rfl, lw_a1 10 (by decide +kernel) rfl, by decide +kernel, by decide +kernel, by decide +kernel⟩
theorem pk_law_59 : mj_KV law rm_put 59 11 5 := ⟨⟨p0_rm_put.1, p0_rm_put.2.1, p0_rm_put.2.2.1, p0_rm_put.2.2.2.1, p0_rm_put.2.2.2.2, by decide⟩, lw_a6 175 (by decide +kernel) rfl, lw_a6 176 (by decide +kernel) rfl, lw_a6 177 (by decide +kernel) rfl, _, _, rfl⟩
theorem p0_to_shade : plainFor to_shade.1 = true ∧ to_shade.1 ≠ yL_law ∧ Cond.code to_shade.1 to_shade.2.1 to_shade.2.2.1 to_shade.2.2.2.1 ∈ lw_g ∧ Cond.initialized to_shade.1.cls ∈ lw_g ∧ (to_shade.1.cls ≠ "java/lang/invoke/MethodHandle" ∧ to_shade.1.cls ≠ "java/lang/invoke/VarHandle" ∧ (parseMethodDescriptor to_shade.1.desc).map (fun d => d.parameters.length) = some 4) := ⟨by decide +kernel, by decide +kernel, lw_a3 17 (by decide +kernel) rfl, lw_a1 1 (by decide +kernel) rfl, by decide +kernel, by decide +kernel, by decide +kernel⟩
theorem pk_law_60 : mj_KV law to_shade 60 10 4 := ⟨⟨p0_to_shade.1, p0_to_shade.2.1, p0_to_shade.2.2.1, p0_to_shade.2.2.2.1, p0_to_shade.2.2.2.2, by decide⟩, lw_a3 14 (by decide +kernel) rfl, lw_a3 15 (by decide +kernel) rfl, lw_a3 16 (by decide +kernel) rfl, _, _, rfl⟩
theorem p0_rm_shade : plainFor rm_shade.1 = true ∧ rm_shade.1 ≠ yL_law ∧ Cond.code rm_shade.1 rm_shade.2.1 rm_shade.2.2.1 rm_shade.2.2.2.1 ∈ lw_g ∧ Cond.initialized rm_shade.1.cls ∈ lw_g ∧ (rm_shade.1.cls ≠ "java/lang/invoke/MethodHandle" ∧ rm_shade.1.cls ≠ "java/lang/invoke/VarHandle" ∧ (parseMethodDescriptor rm_shade.1.desc).map (fun d => d.parameters.length) = some 4) := ⟨by decide +kernel, by decide +kernel, lw_a6 201 (by decide +kernel) rfl, lw_a1 10 (by decide +kernel) rfl, by decide +kernel, by decide +kernel, by decide +kernel⟩
theorem pk_law_63 : mj_KV law rm_shade 63 11 4 := ⟨⟨p0_rm_shade.1, p0_rm_shade.2.1, p0_rm_shade.2.2.1, p0_rm_shade.2.2.2.1, p0_rm_shade.2.2.2.2, by decide⟩, lw_a6 198 (by decide +kernel) rfl, lw_a6 199 (by decide +kernel) rfl, lw_a6 200 (by decide +kernel) rfl, _, _, rfl⟩
theorem p0_to_at : plainFor to_at.1 = true ∧ to_at.1 ≠ yL_law ∧ Cond.code to_at.1 to_at.2.1 to_at.2.2.1 to_at.2.2.2.1 ∈ lw_g ∧ Cond.initialized to_at.1.cls ∈ lw_g ∧ (to_at.1.cls ≠ "java/lang/invoke/MethodHandle" ∧ to_at.1.cls ≠ "java/lang/invoke/VarHandle" ∧ (parseMethodDescriptor to_at.1.desc).map (fun d => d.parameters.length) = some 4) := ⟨by decide +kernel, by decide +kernel, lw_a3 31 (by decide +kernel) rfl, lw_a1 1 (by decide +kernel) rfl, by decide +kernel, by decide +kernel, by decide +kernel⟩
theorem pk_law_64 : mj_KV law to_at 64 10 4 := ⟨⟨p0_to_at.1, p0_to_at.2.1, p0_to_at.2.2.1, p0_to_at.2.2.2.1, p0_to_at.2.2.2.2, by decide⟩, lw_a3 28 (by decide +kernel) rfl, lw_a3 29 (by decide +kernel) rfl, lw_a3 30 (by decide +kernel) rfl, _, _, rfl⟩
theorem p0_rm_at : plainFor rm_at.1 = true ∧ rm_at.1 ≠ yL_law ∧ Cond.code rm_at.1 rm_at.2.1 rm_at.2.2.1 rm_at.2.2.2.1 ∈ lw_g ∧ Cond.initialized rm_at.1.cls ∈ lw_g ∧ (rm_at.1.cls ≠ "java/lang/invoke/MethodHandle" ∧ rm_at.1.cls ≠ "java/lang/invoke/VarHandle" ∧ (parseMethodDescriptor rm_at.1.desc).map (fun d => d.parameters.length) = some 4) := ⟨by decide +kernel, by decide +kernel, lw_a6 216 (by decide +kernel) rfl, lw_a1 10 (by decide +kernel) rfl, by decide +kernel, by decide +kernel, by decide +kernel⟩
theorem pk_law_68 : mj_KV law rm_at 68 11 4 := ⟨⟨p0_rm_at.1, p0_rm_at.2.1, p0_rm_at.2.2.1, p0_rm_at.2.2.2.1, p0_rm_at.2.2.2.2, by decide⟩, lw_a6 213 (by decide +kernel) rfl, lw_a6 214 (by decide +kernel) rfl, lw_a6 215 (by decide +kernel) rfl, _, _, rfl⟩
theorem p0_to_row : plainFor to_row.1 = true ∧ to_row.1 ≠ yL_law ∧ Cond.code to_row.1 to_row.2.1 to_row.2.2.1 to_row.2.2.2.1 ∈ lw_g ∧ Cond.initialized to_row.1.cls ∈ lw_g ∧ (to_row.1.cls ≠ "java/lang/invoke/MethodHandle" ∧ to_row.1.cls ≠ "java/lang/invoke/VarHandle" ∧ (parseMethodDescriptor to_row.1.desc).map (fun d => d.parameters.length) = some 3) := ⟨by decide +kernel, by decide +kernel, lw_a3 40 (by decide +kernel) rfl, lw_a1 1 (by decide +kernel) rfl, by decide +kernel, by decide +kernel, by decide +kernel⟩
theorem pk_law_69 : mj_KV law to_row 69 10 3 := ⟨⟨p0_to_row.1, p0_to_row.2.1, p0_to_row.2.2.1, p0_to_row.2.2.2.1, p0_to_row.2.2.2.2, by decide⟩, lw_a3 37 (by decide +kernel) rfl, lw_a3 38 (by decide +kernel) rfl, lw_a3 39 (by decide +kernel) rfl, _, _, rfl⟩
theorem p0_rm_row : plainFor rm_row.1 = true ∧ rm_row.1 ≠ yL_law ∧ Cond.code rm_row.1 rm_row.2.1 rm_row.2.2.1 rm_row.2.2.2.1 ∈ lw_g ∧ Cond.initialized rm_row.1.cls ∈ lw_g ∧ (rm_row.1.cls ≠ "java/lang/invoke/MethodHandle" ∧ rm_row.1.cls ≠ "java/lang/invoke/VarHandle" ∧ (parseMethodDescriptor rm_row.1.desc).map (fun d => d.parameters.length) = some 3) := ⟨by decide +kernel, by decide +kernel, lw_a6 223 (by decide +kernel) rfl, lw_a1 10 (by decide +kernel) rfl, by decide +kernel, by decide +kernel, by decide +kernel⟩
theorem pk_law_72 : mj_KV law rm_row 72 11 3 := ⟨⟨p0_rm_row.1, p0_rm_row.2.1, p0_rm_row.2.2.1, p0_rm_row.2.2.2.1, p0_rm_row.2.2.2.2, by decide⟩, lw_a6 220 (by decide +kernel) rfl, lw_a6 221 (by decide +kernel) rfl, lw_a6 222 (by decide +kernel) rfl, _, _, rfl⟩
theorem p0_to_shares : plainFor to_shares.1 = true ∧ to_shares.1 ≠ yL_law ∧ Cond.code to_shares.1 to_shares.2.1 to_shares.2.2.1 to_shares.2.2.2.1 ∈ lw_g ∧ Cond.initialized to_shares.1.cls ∈ lw_g ∧ (to_shares.1.cls ≠ "java/lang/invoke/MethodHandle" ∧ to_shares.1.cls ≠ "java/lang/invoke/VarHandle" ∧ (parseMethodDescriptor to_shares.1.desc).map (fun d => d.parameters.length) = some 4) := ⟨by decide +kernel, by decide +kernel, lw_a3 65 (by decide +kernel) rfl, lw_a1 1 (by decide +kernel) rfl, by decide +kernel, by decide +kernel, by decide +kernel⟩
theorem pk_law_73 : mj_KV law to_shares 73 10 4 := ⟨⟨p0_to_shares.1, p0_to_shares.2.1, p0_to_shares.2.2.1, p0_to_shares.2.2.2.1, p0_to_shares.2.2.2.2, by decide⟩, lw_a3 62 (by decide +kernel) rfl, lw_a3 63 (by decide +kernel) rfl, lw_a3 64 (by decide +kernel) rfl, _, _, rfl⟩
theorem p0_rm_shares : plainFor rm_shares.1 = true ∧ rm_shares.1 ≠ yL_law ∧ Cond.code rm_shares.1 rm_shares.2.1 rm_shares.2.2.1 rm_shares.2.2.2.1 ∈ lw_g ∧ Cond.initialized rm_shares.1.cls ∈ lw_g ∧ (rm_shares.1.cls ≠ "java/lang/invoke/MethodHandle" ∧ rm_shares.1.cls ≠ "java/lang/invoke/VarHandle" ∧ (parseMethodDescriptor rm_shares.1.desc).map (fun d => d.parameters.length) = some 4) := ⟨by decide +kernel, by decide +kernel, lw_a6 227 (by decide +kernel) rfl, lw_a1 10 (by decide +kernel) rfl, by decide +kernel, by decide +kernel, by decide +kernel⟩
theorem pk_law_76 : mj_KV law rm_shares 76 11 4 := ⟨⟨p0_rm_shares.1, p0_rm_shares.2.1, p0_rm_shares.2.2.1, p0_rm_shares.2.2.2.1, p0_rm_shares.2.2.2.2, by decide⟩, lw_a6 224 (by decide +kernel) rfl, lw_a6 225 (by decide +kernel) rfl, lw_a6 226 (by decide +kernel) rfl, _, _, rfl⟩
theorem p0_to_copy : plainFor to_copy.1 = true ∧ to_copy.1 ≠ yL_law ∧ Cond.code to_copy.1 to_copy.2.1 to_copy.2.2.1 to_copy.2.2.2.1 ∈ lw_g ∧ Cond.initialized to_copy.1.cls ∈ lw_g ∧ (to_copy.1.cls ≠ "java/lang/invoke/MethodHandle" ∧ to_copy.1.cls ≠ "java/lang/invoke/VarHandle" ∧ (parseMethodDescriptor to_copy.1.desc).map (fun d => d.parameters.length) = some 1) := ⟨by decide +kernel, by decide +kernel, lw_a3 69 (by decide +kernel) rfl, lw_a1 1 (by decide +kernel) rfl, by decide +kernel, by decide +kernel, by decide +kernel⟩
theorem pk_law_77 : mj_KV law to_copy 77 10 1 := ⟨⟨p0_to_copy.1, p0_to_copy.2.1, p0_to_copy.2.2.1, p0_to_copy.2.2.2.1, p0_to_copy.2.2.2.2, by decide⟩, lw_a3 66 (by decide +kernel) rfl, lw_a3 67 (by decide +kernel) rfl, lw_a3 68 (by decide +kernel) rfl, _, _, rfl⟩
theorem p0_rm_copy : plainFor rm_copy.1 = true ∧ rm_copy.1 ≠ yL_law ∧ Cond.code rm_copy.1 rm_copy.2.1 rm_copy.2.2.1 rm_copy.2.2.2.1 ∈ lw_g ∧ Cond.initialized rm_copy.1.cls ∈ lw_g ∧ (rm_copy.1.cls ≠ "java/lang/invoke/MethodHandle" ∧ rm_copy.1.cls ≠ "java/lang/invoke/VarHandle" ∧ (parseMethodDescriptor rm_copy.1.desc).map (fun d => d.parameters.length) = some 1) := ⟨by decide +kernel, by decide +kernel, lw_a6 231 (by decide +kernel) rfl, lw_a1 10 (by decide +kernel) rfl, by decide +kernel, by decide +kernel, by decide +kernel⟩
theorem pk_law_81 : mj_KV law rm_copy 81 11 1 := ⟨⟨p0_rm_copy.1, p0_rm_copy.2.1, p0_rm_copy.2.2.1, p0_rm_copy.2.2.2.1, p0_rm_copy.2.2.2.2, by decide⟩, lw_a6 228 (by decide +kernel) rfl, lw_a6 229 (by decide +kernel) rfl, lw_a6 230 (by decide +kernel) rfl, _, _, rfl⟩
theorem p0_to_region : plainFor to_region.1 = true ∧ to_region.1 ≠ yL_law ∧ Cond.code to_region.1 to_region.2.1 to_region.2.2.1 to_region.2.2.2.1 ∈ lw_g ∧ Cond.initialized to_region.1.cls ∈ lw_g ∧ (to_region.1.cls ≠ "java/lang/invoke/MethodHandle" ∧ to_region.1.cls ≠ "java/lang/invoke/VarHandle" ∧ (parseMethodDescriptor to_region.1.desc).map (fun d => d.parameters.length) = some 5) := ⟨by decide +kernel, by decide +kernel, lw_a3 77 (by decide +kernel) rfl, lw_a1 1 (by decide +kernel) rfl, by decide +kernel, by decide +kernel, by decide +kernel⟩
theorem pk_law_82 : mj_KV law to_region 82 10 5 := ⟨⟨p0_to_region.1, p0_to_region.2.1, p0_to_region.2.2.1, p0_to_region.2.2.2.1, p0_to_region.2.2.2.2, by decide⟩, lw_a3 74 (by decide +kernel) rfl, lw_a3 75 (by decide +kernel) rfl, lw_a3 76 (by decide +kernel) rfl, _, _, rfl⟩
theorem p0_rm_region : plainFor rm_region.1 = true ∧ rm_region.1 ≠ yL_law ∧ Cond.code rm_region.1 rm_region.2.1 rm_region.2.2.1 rm_region.2.2.2.1 ∈ lw_g ∧ Cond.initialized rm_region.1.cls ∈ lw_g ∧ (rm_region.1.cls ≠ "java/lang/invoke/MethodHandle" ∧ rm_region.1.cls ≠ "java/lang/invoke/VarHandle" ∧ (parseMethodDescriptor rm_region.1.desc).map (fun d => d.parameters.length) = some 5) := ⟨by decide +kernel, by decide +kernel, lw_a6 235 (by decide +kernel) rfl, lw_a1 10 (by decide +kernel) rfl, by decide +kernel, by decide +kernel, by decide +kernel⟩
theorem pk_law_86 : mj_KV law rm_region 86 11 5 := ⟨⟨p0_rm_region.1, p0_rm_region.2.1, p0_rm_region.2.2.1, p0_rm_region.2.2.2.1, p0_rm_region.2.2.2.2, by decide⟩, lw_a6 232 (by decide +kernel) rfl, lw_a6 233 (by decide +kernel) rfl, lw_a6 234 (by decide +kernel) rfl, _, _, rfl⟩
theorem p0_to_turn : plainFor to_turn.1 = true ∧ to_turn.1 ≠ yL_law ∧ Cond.code to_turn.1 to_turn.2.1 to_turn.2.2.1 to_turn.2.2.2.1 ∈ lw_g ∧ Cond.initialized to_turn.1.cls ∈ lw_g ∧ (to_turn.1.cls ≠ "java/lang/invoke/MethodHandle" ∧ to_turn.1.cls ≠ "java/lang/invoke/VarHandle" ∧ (parseMethodDescriptor to_turn.1.desc).map (fun d => d.parameters.length) = some 1) := ⟨by decide +kernel, by decide +kernel, lw_a3 105 (by decide +kernel) rfl, lw_a1 1 (by decide +kernel) rfl, by decide +kernel, by decide +kernel, by decide +kernel⟩
theorem pk_law_87 : mj_KV law to_turn 87 10 1 := ⟨⟨p0_to_turn.1, p0_to_turn.2.1, p0_to_turn.2.2.1, p0_to_turn.2.2.2.1, p0_to_turn.2.2.2.2, by decide⟩, lw_a3 102 (by decide +kernel) rfl, lw_a3 103 (by decide +kernel) rfl, lw_a3 104 (by decide +kernel) rfl, _, _, rfl⟩
theorem p0_rm_turn : plainFor rm_turn.1 = true ∧ rm_turn.1 ≠ yL_law ∧ Cond.code rm_turn.1 rm_turn.2.1 rm_turn.2.2.1 rm_turn.2.2.2.1 ∈ lw_g ∧ Cond.initialized rm_turn.1.cls ∈ lw_g ∧ (rm_turn.1.cls ≠ "java/lang/invoke/MethodHandle" ∧ rm_turn.1.cls ≠ "java/lang/invoke/VarHandle" ∧ (parseMethodDescriptor rm_turn.1.desc).map (fun d => d.parameters.length) = some 1) := ⟨by decide +kernel, by decide +kernel, lw_a6 239 (by decide +kernel) rfl, lw_a1 10 (by decide +kernel) rfl, by decide +kernel, by decide +kernel, by decide +kernel⟩
theorem pk_law_91 : mj_KV law rm_turn 91 11 1 := ⟨⟨p0_rm_turn.1, p0_rm_turn.2.1, p0_rm_turn.2.2.1, p0_rm_turn.2.2.2.1, p0_rm_turn.2.2.2.2, by decide⟩, lw_a6 236 (by decide +kernel) rfl, lw_a6 237 (by decide +kernel) rfl, lw_a6 238 (by decide +kernel) rfl, _, _, rfl⟩
theorem p0_to_paste : plainFor to_paste.1 = true ∧ to_paste.1 ≠ yL_law ∧ Cond.code to_paste.1 to_paste.2.1 to_paste.2.2.1 to_paste.2.2.2.1 ∈ lw_g ∧ Cond.initialized to_paste.1.cls ∈ lw_g ∧ (to_paste.1.cls ≠ "java/lang/invoke/MethodHandle" ∧ to_paste.1.cls ≠ "java/lang/invoke/VarHandle" ∧ (parseMethodDescriptor to_paste.1.desc).map (fun d => d.parameters.length) = some 3) := ⟨by decide +kernel, by decide +kernel, lw_a3 125 (by decide +kernel) rfl, lw_a1 1 (by decide +kernel) rfl, by decide +kernel, by decide +kernel, by decide +kernel⟩
theorem pk_law_92 : mj_KV law to_paste 92 10 3 := ⟨⟨p0_to_paste.1, p0_to_paste.2.1, p0_to_paste.2.2.1, p0_to_paste.2.2.2.1, p0_to_paste.2.2.2.2, by decide⟩, lw_a3 122 (by decide +kernel) rfl, lw_a3 123 (by decide +kernel) rfl, lw_a3 124 (by decide +kernel) rfl, _, _, rfl⟩
theorem p0_rm_paste : plainFor rm_paste.1 = true ∧ rm_paste.1 ≠ yL_law ∧ Cond.code rm_paste.1 rm_paste.2.1 rm_paste.2.2.1 rm_paste.2.2.2.1 ∈ lw_g ∧ Cond.initialized rm_paste.1.cls ∈ lw_g ∧ (rm_paste.1.cls ≠ "java/lang/invoke/MethodHandle" ∧ rm_paste.1.cls ≠ "java/lang/invoke/VarHandle" ∧ (parseMethodDescriptor rm_paste.1.desc).map (fun d => d.parameters.length) = some 3) := ⟨by decide +kernel, by decide +kernel, lw_a7 11 (by decide +kernel) rfl, lw_a1 10 (by decide +kernel) rfl, by decide +kernel, by decide +kernel, by decide +kernel⟩
theorem pk_law_95 : mj_KV law rm_paste 95 11 3 := ⟨⟨p0_rm_paste.1, p0_rm_paste.2.1, p0_rm_paste.2.2.1, p0_rm_paste.2.2.2.1, p0_rm_paste.2.2.2.2, by decide⟩, lw_a7 8 (by decide +kernel) rfl, lw_a7 9 (by decide +kernel) rfl, lw_a7 10 (by decide +kernel) rfl, _, _, rfl⟩
theorem p0_to_rule : plainFor to_rule.1 = true ∧ to_rule.1 ≠ yL_law ∧ Cond.code to_rule.1 to_rule.2.1 to_rule.2.2.1 to_rule.2.2.2.1 ∈ lw_g ∧ Cond.initialized to_rule.1.cls ∈ lw_g ∧ (to_rule.1.cls ≠ "java/lang/invoke/MethodHandle" ∧ to_rule.1.cls ≠ "java/lang/invoke/VarHandle" ∧ (parseMethodDescriptor to_rule.1.desc).map (fun d => d.parameters.length) = some 2) := ⟨by decide +kernel, by decide +kernel, lw_a3 142 (by decide +kernel) rfl, lw_a1 1 (by decide +kernel) rfl, by decide +kernel, by decide +kernel, by decide +kernel⟩
theorem pk_law_96 : mj_KV law to_rule 96 10 2 := ⟨⟨p0_to_rule.1, p0_to_rule.2.1, p0_to_rule.2.2.1, p0_to_rule.2.2.2.1, p0_to_rule.2.2.2.2, by decide⟩, lw_a3 139 (by decide +kernel) rfl, lw_a3 140 (by decide +kernel) rfl, lw_a3 141 (by decide +kernel) rfl, _, _, rfl⟩
theorem p0_rm_rule : plainFor rm_rule.1 = true ∧ rm_rule.1 ≠ yL_law ∧ Cond.code rm_rule.1 rm_rule.2.1 rm_rule.2.2.1 rm_rule.2.2.2.1 ∈ lw_g ∧ Cond.initialized rm_rule.1.cls ∈ lw_g ∧ (rm_rule.1.cls ≠ "java/lang/invoke/MethodHandle" ∧ rm_rule.1.cls ≠ "java/lang/invoke/VarHandle" ∧ (parseMethodDescriptor rm_rule.1.desc).map (fun d => d.parameters.length) = some 2) := ⟨by decide +kernel, by decide +kernel, lw_a7 19 (by decide +kernel) rfl, lw_a1 10 (by decide +kernel) rfl, by decide +kernel, by decide +kernel, by decide +kernel⟩
theorem pk_law_99 : mj_KV law rm_rule 99 11 2 := ⟨⟨p0_rm_rule.1, p0_rm_rule.2.1, p0_rm_rule.2.2.1, p0_rm_rule.2.2.2.1, p0_rm_rule.2.2.2.2, by decide⟩, lw_a7 16 (by decide +kernel) rfl, lw_a7 17 (by decide +kernel) rfl, lw_a7 18 (by decide +kernel) rfl, _, _, rfl⟩
theorem p0_to_becomes : plainFor to_becomes.1 = true ∧ to_becomes.1 ≠ yL_law ∧ Cond.code to_becomes.1 to_becomes.2.1 to_becomes.2.2.1 to_becomes.2.2.2.1 ∈ lw_g ∧ Cond.initialized to_becomes.1.cls ∈ lw_g ∧ (to_becomes.1.cls ≠ "java/lang/invoke/MethodHandle" ∧ to_becomes.1.cls ≠ "java/lang/invoke/VarHandle" ∧ (parseMethodDescriptor to_becomes.1.desc).map (fun d => d.parameters.length) = some 6) := ⟨by decide +kernel, by decide +kernel, lw_a3 173 (by decide +kernel) rfl, lw_a1 1 (by decide +kernel) rfl, by decide +kernel, by decide +kernel, by decide +kernel⟩
theorem pk_law_100 : mj_KV law to_becomes 100 10 6 := ⟨⟨p0_to_becomes.1, p0_to_becomes.2.1, p0_to_becomes.2.2.1, p0_to_becomes.2.2.2.1, p0_to_becomes.2.2.2.2, by decide⟩, lw_a3 170 (by decide +kernel) rfl, lw_a3 171 (by decide +kernel) rfl, lw_a3 172 (by decide +kernel) rfl, _, _, rfl⟩
theorem p0_rm_becomes : plainFor rm_becomes.1 = true ∧ rm_becomes.1 ≠ yL_law ∧ Cond.code rm_becomes.1 rm_becomes.2.1 rm_becomes.2.2.1 rm_becomes.2.2.2.1 ∈ lw_g ∧ Cond.initialized rm_becomes.1.cls ∈ lw_g ∧ (rm_becomes.1.cls ≠ "java/lang/invoke/MethodHandle" ∧ rm_becomes.1.cls ≠ "java/lang/invoke/VarHandle" ∧ (parseMethodDescriptor rm_becomes.1.desc).map (fun d => d.parameters.length) = some 6) := ⟨by decide +kernel, by decide +kernel, lw_a7 23 (by decide +kernel) rfl, lw_a1 10 (by decide +kernel) rfl, by decide +kernel, by decide +kernel, by decide +kernel⟩
theorem pk_law_104 : mj_KV law rm_becomes 104 11 6 := ⟨⟨p0_rm_becomes.1, p0_rm_becomes.2.1, p0_rm_becomes.2.2.1, p0_rm_becomes.2.2.2.1, p0_rm_becomes.2.2.2.2, by decide⟩, lw_a7 20 (by decide +kernel) rfl, lw_a7 21 (by decide +kernel) rfl, lw_a7 22 (by decide +kernel) rfl, _, _, rfl⟩
theorem p0_to_grow : plainFor to_grow.1 = true ∧ to_grow.1 ≠ yL_law ∧ Cond.code to_grow.1 to_grow.2.1 to_grow.2.2.1 to_grow.2.2.2.1 ∈ lw_g ∧ Cond.initialized to_grow.1.cls ∈ lw_g ∧ (to_grow.1.cls ≠ "java/lang/invoke/MethodHandle" ∧ to_grow.1.cls ≠ "java/lang/invoke/VarHandle" ∧ (parseMethodDescriptor to_grow.1.desc).map (fun d => d.parameters.length) = some 3) := ⟨by decide +kernel, by decide +kernel, lw_a3 194 (by decide +kernel) rfl, lw_a1 1 (by decide +kernel) rfl, by decide +kernel, by decide +kernel, by decide +kernel⟩
theorem pk_law_105 : mj_KV law to_grow 105 10 3 := ⟨⟨p0_to_grow.1, p0_to_grow.2.1, p0_to_grow.2.2.1, p0_to_grow.2.2.2.1, p0_to_grow.2.2.2.2, by decide⟩, lw_a3 191 (by decide +kernel) rfl, lw_a3 192 (by decide +kernel) rfl, lw_a3 193 (by decide +kernel) rfl, _, _, rfl⟩
theorem p0_rm_grow : plainFor rm_grow.1 = true ∧ rm_grow.1 ≠ yL_law ∧ Cond.code rm_grow.1 rm_grow.2.1 rm_grow.2.2.1 rm_grow.2.2.2.1 ∈ lw_g ∧ Cond.initialized rm_grow.1.cls ∈ lw_g ∧ (rm_grow.1.cls ≠ "java/lang/invoke/MethodHandle" ∧ rm_grow.1.cls ≠ "java/lang/invoke/VarHandle" ∧ (parseMethodDescriptor rm_grow.1.desc).map (fun d => d.parameters.length) = some 3) := ⟨by decide +kernel, by decide +kernel, lw_a7 31 (by decide +kernel) rfl, lw_a1 10 (by decide +kernel) rfl, by decide +kernel, by decide +kernel, by decide +kernel⟩
theorem pk_law_108 : mj_KV law rm_grow 108 11 3 := ⟨⟨p0_rm_grow.1, p0_rm_grow.2.1, p0_rm_grow.2.2.1, p0_rm_grow.2.2.2.1, p0_rm_grow.2.2.2.2, by decide⟩, lw_a7 28 (by decide +kernel) rfl, lw_a7 29 (by decide +kernel) rfl, lw_a7 30 (by decide +kernel) rfl, _, _, rfl⟩
theorem p0_to_foretold : plainFor to_foretold.1 = true ∧ to_foretold.1 ≠ yL_law ∧ Cond.code to_foretold.1 to_foretold.2.1 to_foretold.2.2.1 to_foretold.2.2.2.1 ∈ lw_g ∧ Cond.initialized to_foretold.1.cls ∈ lw_g ∧ (to_foretold.1.cls ≠ "java/lang/invoke/MethodHandle" ∧ to_foretold.1.cls ≠ "java/lang/invoke/VarHandle" ∧ (parseMethodDescriptor to_foretold.1.desc).map (fun d => d.parameters.length) = some 4) := ⟨by decide +kernel, by decide +kernel, lw_a4 8 (by decide +kernel) rfl, lw_a1 1 (by decide +kernel) rfl, by decide +kernel, by decide +kernel, by decide +kernel⟩
theorem pk_law_109 : mj_KV law to_foretold 109 10 4 := ⟨⟨p0_to_foretold.1, p0_to_foretold.2.1, p0_to_foretold.2.2.1, p0_to_foretold.2.2.2.1, p0_to_foretold.2.2.2.2, by decide⟩, lw_a4 5 (by decide +kernel) rfl, lw_a4 6 (by decide +kernel) rfl, lw_a4 7 (by decide +kernel) rfl, _, _, rfl⟩
theorem p0_rm_foretold : plainFor rm_foretold.1 = true ∧ rm_foretold.1 ≠ yL_law ∧ Cond.code rm_foretold.1 rm_foretold.2.1 rm_foretold.2.2.1 rm_foretold.2.2.2.1 ∈ lw_g ∧ Cond.initialized rm_foretold.1.cls ∈ lw_g ∧ (rm_foretold.1.cls ≠ "java/lang/invoke/MethodHandle" ∧ rm_foretold.1.cls ≠ "java/lang/invoke/VarHandle" ∧ (parseMethodDescriptor rm_foretold.1.desc).map (fun d => d.parameters.length) = some 4) := ⟨by decide +kernel, by decide +kernel, lw_a7 44 (by decide +kernel) rfl, lw_a1 10 (by decide +kernel) rfl, by decide +kernel, by decide +kernel, by decide +kernel⟩
theorem pk_law_113 : mj_KV law rm_foretold 113 11 4 := ⟨⟨p0_rm_foretold.1, p0_rm_foretold.2.1, p0_rm_foretold.2.2.1, p0_rm_foretold.2.2.2.1, p0_rm_foretold.2.2.2.2, by decide⟩, lw_a7 41 (by decide +kernel) rfl, lw_a7 42 (by decide +kernel) rfl, lw_a7 43 (by decide +kernel) rfl, _, _, rfl⟩
theorem p0_to_count : plainFor to_count.1 = true ∧ to_count.1 ≠ yL_law ∧ Cond.code to_count.1 to_count.2.1 to_count.2.2.1 to_count.2.2.2.1 ∈ lw_g ∧ Cond.initialized to_count.1.cls ∈ lw_g ∧ (to_count.1.cls ≠ "java/lang/invoke/MethodHandle" ∧ to_count.1.cls ≠ "java/lang/invoke/VarHandle" ∧ (parseMethodDescriptor to_count.1.desc).map (fun d => d.parameters.length) = some 2) := ⟨by decide +kernel, by decide +kernel, lw_a4 30 (by decide +kernel) rfl, lw_a1 1 (by decide +kernel) rfl, by decide +kernel, by decide +kernel, by decide +kernel⟩
theorem pk_law_114 : mj_KV law to_count 114 10 2 := ⟨⟨p0_to_count.1, p0_to_count.2.1, p0_to_count.2.2.1, p0_to_count.2.2.2.1, p0_to_count.2.2.2.2, by decide⟩, lw_a4 27 (by decide +kernel) rfl, lw_a4 28 (by decide +kernel) rfl, lw_a4 29 (by decide +kernel) rfl, _, _, rfl⟩
theorem p0_rm_count : plainFor rm_count.1 = true ∧ rm_count.1 ≠ yL_law ∧ Cond.code rm_count.1 rm_count.2.1 rm_count.2.2.1 rm_count.2.2.2.1 ∈ lw_g ∧ Cond.initialized rm_count.1.cls ∈ lw_g ∧ (rm_count.1.cls ≠ "java/lang/invoke/MethodHandle" ∧ rm_count.1.cls ≠ "java/lang/invoke/VarHandle" ∧ (parseMethodDescriptor rm_count.1.desc).map (fun d => d.parameters.length) = some 2) := ⟨by decide +kernel, by decide +kernel, lw_a7 53 (by decide +kernel) rfl, lw_a1 10 (by decide +kernel) rfl, by decide +kernel, by decide +kernel, by decide +kernel⟩
theorem pk_law_117 : mj_KV law rm_count 117 11 2 := ⟨⟨p0_rm_count.1, p0_rm_count.2.1, p0_rm_count.2.2.1, p0_rm_count.2.2.2.1, p0_rm_count.2.2.2.2, by decide⟩, lw_a7 50 (by decide +kernel) rfl, lw_a7 51 (by decide +kernel) rfl, lw_a7 52 (by decide +kernel) rfl, _, _, rfl⟩
theorem p0_to_fits : plainFor to_fits.1 = true ∧ to_fits.1 ≠ yL_law ∧ Cond.code to_fits.1 to_fits.2.1 to_fits.2.2.1 to_fits.2.2.2.1 ∈ lw_g ∧ Cond.initialized to_fits.1.cls ∈ lw_g ∧ (to_fits.1.cls ≠ "java/lang/invoke/MethodHandle" ∧ to_fits.1.cls ≠ "java/lang/invoke/VarHandle" ∧ (parseMethodDescriptor to_fits.1.desc).map (fun d => d.parameters.length) = some 1) := ⟨by decide +kernel, by decide +kernel, lw_a4 34 (by decide +kernel) rfl, lw_a1 1 (by decide +kernel) rfl, by decide +kernel, by decide +kernel, by decide +kernel⟩
theorem pk_law_118 : mj_KV law to_fits 118 10 1 := ⟨⟨p0_to_fits.1, p0_to_fits.2.1, p0_to_fits.2.2.1, p0_to_fits.2.2.2.1, p0_to_fits.2.2.2.2, by decide⟩, lw_a4 31 (by decide +kernel) rfl, lw_a4 32 (by decide +kernel) rfl, lw_a4 33 (by decide +kernel) rfl, _, _, rfl⟩
theorem p0_rm_fits : plainFor rm_fits.1 = true ∧ rm_fits.1 ≠ yL_law ∧ Cond.code rm_fits.1 rm_fits.2.1 rm_fits.2.2.1 rm_fits.2.2.2.1 ∈ lw_g ∧ Cond.initialized rm_fits.1.cls ∈ lw_g ∧ (rm_fits.1.cls ≠ "java/lang/invoke/MethodHandle" ∧ rm_fits.1.cls ≠ "java/lang/invoke/VarHandle" ∧ (parseMethodDescriptor rm_fits.1.desc).map (fun d => d.parameters.length) = some 1) := ⟨by decide +kernel, by decide +kernel, lw_a7 57 (by decide +kernel) rfl, lw_a1 10 (by decide +kernel) rfl, by decide +kernel, by decide +kernel, by decide +kernel⟩
theorem pk_law_121 : mj_KV law rm_fits 121 11 1 := ⟨⟨p0_rm_fits.1, p0_rm_fits.2.1, p0_rm_fits.2.2.1, p0_rm_fits.2.2.2.1, p0_rm_fits.2.2.2.2, by decide⟩, lw_a7 54 (by decide +kernel) rfl, lw_a7 55 (by decide +kernel) rfl, lw_a7 56 (by decide +kernel) rfl, _, _, rfl⟩
theorem p0_to_period : plainFor to_period.1 = true ∧ to_period.1 ≠ yL_law ∧ Cond.code to_period.1 to_period.2.1 to_period.2.2.1 to_period.2.2.2.1 ∈ lw_g ∧ Cond.initialized to_period.1.cls ∈ lw_g ∧ (to_period.1.cls ≠ "java/lang/invoke/MethodHandle" ∧ to_period.1.cls ≠ "java/lang/invoke/VarHandle" ∧ (parseMethodDescriptor to_period.1.desc).map (fun d => d.parameters.length) = some 2) := ⟨by decide +kernel, by decide +kernel, lw_a4 43 (by decide +kernel) rfl, lw_a1 1 (by decide +kernel) rfl, by decide +kernel, by decide +kernel, by decide +kernel⟩
theorem pk_law_122 : mj_KV law to_period 122 10 2 := ⟨⟨p0_to_period.1, p0_to_period.2.1, p0_to_period.2.2.1, p0_to_period.2.2.2.1, p0_to_period.2.2.2.2, by decide⟩, lw_a4 40 (by decide +kernel) rfl, lw_a4 41 (by decide +kernel) rfl, lw_a4 42 (by decide +kernel) rfl, _, _, rfl⟩
theorem p0_rm_period : plainFor rm_period.1 = true ∧ rm_period.1 ≠ yL_law ∧ Cond.code rm_period.1 rm_period.2.1 rm_period.2.2.1 rm_period.2.2.2.1 ∈ lw_g ∧ Cond.initialized rm_period.1.cls ∈ lw_g ∧ (rm_period.1.cls ≠ "java/lang/invoke/MethodHandle" ∧ rm_period.1.cls ≠ "java/lang/invoke/VarHandle" ∧ (parseMethodDescriptor rm_period.1.desc).map (fun d => d.parameters.length) = some 2) := ⟨by decide +kernel, by decide +kernel, lw_a7 65 (by decide +kernel) rfl, lw_a1 10 (by decide +kernel) rfl, by decide +kernel, by decide +kernel, by decide +kernel⟩
theorem pk_law_125 : mj_KV law rm_period 125 11 2 := ⟨⟨p0_rm_period.1, p0_rm_period.2.1, p0_rm_period.2.2.1, p0_rm_period.2.2.2.1, p0_rm_period.2.2.2.2, by decide⟩, lw_a7 62 (by decide +kernel) rfl, lw_a7 63 (by decide +kernel) rfl, lw_a7 64 (by decide +kernel) rfl, _, _, rfl⟩
theorem p0_to_kept : plainFor to_kept.1 = true ∧ to_kept.1 ≠ yL_law ∧ Cond.code to_kept.1 to_kept.2.1 to_kept.2.2.1 to_kept.2.2.2.1 ∈ lw_g ∧ Cond.initialized to_kept.1.cls ∈ lw_g ∧ (to_kept.1.cls ≠ "java/lang/invoke/MethodHandle" ∧ to_kept.1.cls ≠ "java/lang/invoke/VarHandle" ∧ (parseMethodDescriptor to_kept.1.desc).map (fun d => d.parameters.length) = some 1) := ⟨by decide +kernel, by decide +kernel, lw_a4 50 (by decide +kernel) rfl, lw_a1 1 (by decide +kernel) rfl, by decide +kernel, by decide +kernel, by decide +kernel⟩
theorem pk_law_126 : mj_KV law to_kept 126 10 1 := ⟨⟨p0_to_kept.1, p0_to_kept.2.1, p0_to_kept.2.2.1, p0_to_kept.2.2.2.1, p0_to_kept.2.2.2.2, by decide⟩, lw_a4 47 (by decide +kernel) rfl, lw_a4 48 (by decide +kernel) rfl, lw_a4 49 (by decide +kernel) rfl, _, _, rfl⟩
theorem p0_rm_kept : plainFor rm_kept.1 = true ∧ rm_kept.1 ≠ yL_law ∧ Cond.code rm_kept.1 rm_kept.2.1 rm_kept.2.2.1 rm_kept.2.2.2.1 ∈ lw_g ∧ Cond.initialized rm_kept.1.cls ∈ lw_g ∧ (rm_kept.1.cls ≠ "java/lang/invoke/MethodHandle" ∧ rm_kept.1.cls ≠ "java/lang/invoke/VarHandle" ∧ (parseMethodDescriptor rm_kept.1.desc).map (fun d => d.parameters.length) = some 1) := ⟨by decide +kernel, by decide +kernel, lw_a7 73 (by decide +kernel) rfl, lw_a1 10 (by decide +kernel) rfl, by decide +kernel, by decide +kernel, by decide +kernel⟩
theorem pk_law_129 : mj_KV law rm_kept 129 11 1 := ⟨⟨p0_rm_kept.1, p0_rm_kept.2.1, p0_rm_kept.2.2.1, p0_rm_kept.2.2.2.1, p0_rm_kept.2.2.2.2, by decide⟩, lw_a7 70 (by decide +kernel) rfl, lw_a7 71 (by decide +kernel) rfl, lw_a7 72 (by decide +kernel) rfl, _, _, rfl⟩
theorem p0_to_congruent : plainFor to_congruent.1 = true ∧ to_congruent.1 ≠ yL_law ∧ Cond.code to_congruent.1 to_congruent.2.1 to_congruent.2.2.1 to_congruent.2.2.2.1 ∈ lw_g ∧ Cond.initialized to_congruent.1.cls ∈ lw_g ∧ (to_congruent.1.cls ≠ "java/lang/invoke/MethodHandle" ∧ to_congruent.1.cls ≠ "java/lang/invoke/VarHandle" ∧ (parseMethodDescriptor to_congruent.1.desc).map (fun d => d.parameters.length) = some 2) := ⟨by decide +kernel, by decide +kernel, lw_a4 76 (by decide +kernel) rfl, lw_a1 1 (by decide +kernel) rfl, by decide +kernel, by decide +kernel, by decide +kernel⟩
theorem pk_law_130 : mj_KV law to_congruent 130 10 2 := ⟨⟨p0_to_congruent.1, p0_to_congruent.2.1, p0_to_congruent.2.2.1, p0_to_congruent.2.2.2.1, p0_to_congruent.2.2.2.2, by decide⟩, lw_a4 73 (by decide +kernel) rfl, lw_a4 74 (by decide +kernel) rfl, lw_a4 75 (by decide +kernel) rfl, _, _, rfl⟩
theorem p0_rm_congruent : plainFor rm_congruent.1 = true ∧ rm_congruent.1 ≠ yL_law ∧ Cond.code rm_congruent.1 rm_congruent.2.1 rm_congruent.2.2.1 rm_congruent.2.2.2.1 ∈ lw_g ∧ Cond.initialized rm_congruent.1.cls ∈ lw_g ∧ (rm_congruent.1.cls ≠ "java/lang/invoke/MethodHandle" ∧ rm_congruent.1.cls ≠ "java/lang/invoke/VarHandle" ∧ (parseMethodDescriptor rm_congruent.1.desc).map (fun d => d.parameters.length) = some 2) := ⟨by decide +kernel, by decide +kernel, lw_a7 93 (by decide +kernel) rfl, lw_a1 10 (by decide +kernel) rfl, by decide +kernel, by decide +kernel, by decide +kernel⟩
theorem pk_law_133 : mj_KV law rm_congruent 133 11 2 := ⟨⟨p0_rm_congruent.1, p0_rm_congruent.2.1, p0_rm_congruent.2.2.1, p0_rm_congruent.2.2.2.1, p0_rm_congruent.2.2.2.2, by decide⟩, lw_a7 90 (by decide +kernel) rfl, lw_a7 91 (by decide +kernel) rfl, lw_a7 92 (by decide +kernel) rfl, _, _, rfl⟩
theorem p0_to_find : plainFor to_find.1 = true ∧ to_find.1 ≠ yL_law ∧ Cond.code to_find.1 to_find.2.1 to_find.2.2.1 to_find.2.2.2.1 ∈ lw_g ∧ Cond.initialized to_find.1.cls ∈ lw_g ∧ (to_find.1.cls ≠ "java/lang/invoke/MethodHandle" ∧ to_find.1.cls ≠ "java/lang/invoke/VarHandle" ∧ (parseMethodDescriptor to_find.1.desc).map (fun d => d.parameters.length) = some 3) := ⟨by decide +kernel, by decide +kernel, lw_a4 80 (by decide +kernel) rfl, lw_a1 1 (by decide +kernel) rfl, by decide +kernel, by decide +kernel, by decide +kernel⟩
theorem pk_law_134 : mj_KV law to_find 134 10 3 := ⟨⟨p0_to_find.1, p0_to_find.2.1, p0_to_find.2.2.1, p0_to_find.2.2.2.1, p0_to_find.2.2.2.2, by decide⟩, lw_a4 77 (by decide +kernel) rfl, lw_a4 78 (by decide +kernel) rfl, lw_a4 79 (by decide +kernel) rfl, _, _, rfl⟩
theorem p0_rm_find : plainFor rm_find.1 = true ∧ rm_find.1 ≠ yL_law ∧ Cond.code rm_find.1 rm_find.2.1 rm_find.2.2.1 rm_find.2.2.2.1 ∈ lw_g ∧ Cond.initialized rm_find.1.cls ∈ lw_g ∧ (rm_find.1.cls ≠ "java/lang/invoke/MethodHandle" ∧ rm_find.1.cls ≠ "java/lang/invoke/VarHandle" ∧ (parseMethodDescriptor rm_find.1.desc).map (fun d => d.parameters.length) = some 3) := ⟨by decide +kernel, by decide +kernel, lw_a7 97 (by decide +kernel) rfl, lw_a1 10 (by decide +kernel) rfl, by decide +kernel, by decide +kernel, by decide +kernel⟩
theorem pk_law_137 : mj_KV law rm_find 137 11 3 := ⟨⟨p0_rm_find.1, p0_rm_find.2.1, p0_rm_find.2.2.1, p0_rm_find.2.2.2.1, p0_rm_find.2.2.2.2, by decide⟩, lw_a7 94 (by decide +kernel) rfl, lw_a7 95 (by decide +kernel) rfl, lw_a7 96 (by decide +kernel) rfl, _, _, rfl⟩
theorem p0_to_floor : plainFor to_floor.1 = true ∧ to_floor.1 ≠ yL_law ∧ Cond.code to_floor.1 to_floor.2.1 to_floor.2.2.1 to_floor.2.2.2.1 ∈ lw_g ∧ Cond.initialized to_floor.1.cls ∈ lw_g ∧ (to_floor.1.cls ≠ "java/lang/invoke/MethodHandle" ∧ to_floor.1.cls ≠ "java/lang/invoke/VarHandle" ∧ (parseMethodDescriptor to_floor.1.desc).map (fun d => d.parameters.length) = some 2) := ⟨by decide +kernel, by decide +kernel, lw_a4 103 (by decide +kernel) rfl, lw_a1 1 (by decide +kernel) rfl, by decide +kernel, by decide +kernel, by decide +kernel⟩
theorem pk_law_138 : mj_KV law to_floor 138 10 2 := ⟨⟨p0_to_floor.1, p0_to_floor.2.1, p0_to_floor.2.2.1, p0_to_floor.2.2.2.1, p0_to_floor.2.2.2.2, by decide⟩, lw_a4 100 (by decide +kernel) rfl, lw_a4 101 (by decide +kernel) rfl, lw_a4 102 (by decide +kernel) rfl, _, _, rfl⟩
theorem p0_rm_floor : plainFor rm_floor.1 = true ∧ rm_floor.1 ≠ yL_law ∧ Cond.code rm_floor.1 rm_floor.2.1 rm_floor.2.2.1 rm_floor.2.2.2.1 ∈ lw_g ∧ Cond.initialized rm_floor.1.cls ∈ lw_g ∧ (rm_floor.1.cls ≠ "java/lang/invoke/MethodHandle" ∧ rm_floor.1.cls ≠ "java/lang/invoke/VarHandle" ∧ (parseMethodDescriptor rm_floor.1.desc).map (fun d => d.parameters.length) = some 2) := ⟨by decide +kernel, by decide +kernel, lw_a7 105 (by decide +kernel) rfl, lw_a1 10 (by decide +kernel) rfl, by decide +kernel, by decide +kernel, by decide +kernel⟩
theorem pk_law_141 : mj_KV law rm_floor 141 11 2 := ⟨⟨p0_rm_floor.1, p0_rm_floor.2.1, p0_rm_floor.2.2.1, p0_rm_floor.2.2.2.1, p0_rm_floor.2.2.2.2, by decide⟩, lw_a7 102 (by decide +kernel) rfl, lw_a7 103 (by decide +kernel) rfl, lw_a7 104 (by decide +kernel) rfl, _, _, rfl⟩
theorem p0_to_place : plainFor to_place.1 = true ∧ to_place.1 ≠ yL_law ∧ Cond.code to_place.1 to_place.2.1 to_place.2.2.1 to_place.2.2.2.1 ∈ lw_g ∧ Cond.initialized to_place.1.cls ∈ lw_g ∧ (to_place.1.cls ≠ "java/lang/invoke/MethodHandle" ∧ to_place.1.cls ≠ "java/lang/invoke/VarHandle" ∧ (parseMethodDescriptor to_place.1.desc).map (fun d => d.parameters.length) = some 5) := ⟨by decide +kernel, by decide +kernel, lw_a4 134 (by decide +kernel) rfl, lw_a1 1 (by decide +kernel) rfl, by decide +kernel, by decide +kernel, by decide +kernel⟩
theorem pk_law_142 : mj_KV law to_place 142 10 5 := ⟨⟨p0_to_place.1, p0_to_place.2.1, p0_to_place.2.2.1, p0_to_place.2.2.2.1, p0_to_place.2.2.2.2, by decide⟩, lw_a4 131 (by decide +kernel) rfl, lw_a4 132 (by decide +kernel) rfl, lw_a4 133 (by decide +kernel) rfl, _, _, rfl⟩
theorem p0_rm_place : plainFor rm_place.1 = true ∧ rm_place.1 ≠ yL_law ∧ Cond.code rm_place.1 rm_place.2.1 rm_place.2.2.1 rm_place.2.2.2.1 ∈ lw_g ∧ Cond.initialized rm_place.1.cls ∈ lw_g ∧ (rm_place.1.cls ≠ "java/lang/invoke/MethodHandle" ∧ rm_place.1.cls ≠ "java/lang/invoke/VarHandle" ∧ (parseMethodDescriptor rm_place.1.desc).map (fun d => d.parameters.length) = some 5) := ⟨by decide +kernel, by decide +kernel, lw_a7 109 (by decide +kernel) rfl, lw_a1 10 (by decide +kernel) rfl, by decide +kernel, by decide +kernel, by decide +kernel⟩
theorem pk_law_145 : mj_KV law rm_place 145 11 5 := ⟨⟨p0_rm_place.1, p0_rm_place.2.1, p0_rm_place.2.2.1, p0_rm_place.2.2.2.1, p0_rm_place.2.2.2.2, by decide⟩, lw_a7 106 (by decide +kernel) rfl, lw_a7 107 (by decide +kernel) rfl, lw_a7 108 (by decide +kernel) rfl, _, _, rfl⟩
theorem p0_to_stock : plainFor to_stock.1 = true ∧ to_stock.1 ≠ yL_law ∧ Cond.code to_stock.1 to_stock.2.1 to_stock.2.2.1 to_stock.2.2.2.1 ∈ lw_g ∧ Cond.initialized to_stock.1.cls ∈ lw_g ∧ (to_stock.1.cls ≠ "java/lang/invoke/MethodHandle" ∧ to_stock.1.cls ≠ "java/lang/invoke/VarHandle" ∧ (parseMethodDescriptor to_stock.1.desc).map (fun d => d.parameters.length) = some 3) := ⟨by decide +kernel, by decide +kernel, lw_a4 151 (by decide +kernel) rfl, lw_a1 1 (by decide +kernel) rfl, by decide +kernel, by decide +kernel, by decide +kernel⟩
theorem pk_law_146 : mj_KV law to_stock 146 10 3 := ⟨⟨p0_to_stock.1, p0_to_stock.2.1, p0_to_stock.2.2.1, p0_to_stock.2.2.2.1, p0_to_stock.2.2.2.2, by decide⟩, lw_a4 148 (by decide +kernel) rfl, lw_a4 149 (by decide +kernel) rfl, lw_a4 150 (by decide +kernel) rfl, _, _, rfl⟩
theorem p0_rm_stock : plainFor rm_stock.1 = true ∧ rm_stock.1 ≠ yL_law ∧ Cond.code rm_stock.1 rm_stock.2.1 rm_stock.2.2.1 rm_stock.2.2.2.1 ∈ lw_g ∧ Cond.initialized rm_stock.1.cls ∈ lw_g ∧ (rm_stock.1.cls ≠ "java/lang/invoke/MethodHandle" ∧ rm_stock.1.cls ≠ "java/lang/invoke/VarHandle" ∧ (parseMethodDescriptor rm_stock.1.desc).map (fun d => d.parameters.length) = some 3) := ⟨by decide +kernel, by decide +kernel, lw_a7 121 (by decide +kernel) rfl, lw_a1 10 (by decide +kernel) rfl, by decide +kernel, by decide +kernel, by decide +kernel⟩
theorem pk_law_149 : mj_KV law rm_stock 149 11 3 := ⟨⟨p0_rm_stock.1, p0_rm_stock.2.1, p0_rm_stock.2.2.1, p0_rm_stock.2.2.2.1, p0_rm_stock.2.2.2.2, by decide⟩, lw_a7 118 (by decide +kernel) rfl, lw_a7 119 (by decide +kernel) rfl, lw_a7 120 (by decide +kernel) rfl, _, _, rfl⟩
theorem p0_to_fill : plainFor to_fill.1 = true ∧ to_fill.1 ≠ yL_law ∧ Cond.code to_fill.1 to_fill.2.1 to_fill.2.2.1 to_fill.2.2.2.1 ∈ lw_g ∧ Cond.initialized to_fill.1.cls ∈ lw_g ∧ (to_fill.1.cls ≠ "java/lang/invoke/MethodHandle" ∧ to_fill.1.cls ≠ "java/lang/invoke/VarHandle" ∧ (parseMethodDescriptor to_fill.1.desc).map (fun d => d.parameters.length) = some 1) := ⟨by decide +kernel, by decide +kernel, lw_a4 159 (by decide +kernel) rfl, lw_a1 1 (by decide +kernel) rfl, by decide +kernel, by decide +kernel, by decide +kernel⟩
theorem pk_law_150 : mj_KV law to_fill 150 10 1 := ⟨⟨p0_to_fill.1, p0_to_fill.2.1, p0_to_fill.2.2.1, p0_to_fill.2.2.2.1, p0_to_fill.2.2.2.2, by decide⟩, lw_a4 156 (by decide +kernel) rfl, lw_a4 157 (by decide +kernel) rfl, lw_a4 158 (by decide +kernel) rfl, _, _, rfl⟩
theorem p0_rm_fill : plainFor rm_fill.1 = true ∧ rm_fill.1 ≠ yL_law ∧ Cond.code rm_fill.1 rm_fill.2.1 rm_fill.2.2.1 rm_fill.2.2.2.1 ∈ lw_g ∧ Cond.initialized rm_fill.1.cls ∈ lw_g ∧ (rm_fill.1.cls ≠ "java/lang/invoke/MethodHandle" ∧ rm_fill.1.cls ≠ "java/lang/invoke/VarHandle" ∧ (parseMethodDescriptor rm_fill.1.desc).map (fun d => d.parameters.length) = some 1) := ⟨by decide +kernel, by decide +kernel, lw_a7 129 (by decide +kernel) rfl, lw_a1 10 (by decide +kernel) rfl, by decide +kernel, by decide +kernel, by decide +kernel⟩
theorem pk_law_153 : mj_KV law rm_fill 153 11 1 := ⟨⟨p0_rm_fill.1, p0_rm_fill.2.1, p0_rm_fill.2.2.1, p0_rm_fill.2.2.2.1, p0_rm_fill.2.2.2.2, by decide⟩, lw_a7 126 (by decide +kernel) rfl, lw_a7 127 (by decide +kernel) rfl, lw_a7 128 (by decide +kernel) rfl, _, _, rfl⟩
theorem p0_to_fills : plainFor to_fills.1 = true ∧ to_fills.1 ≠ yL_law ∧ Cond.code to_fills.1 to_fills.2.1 to_fills.2.2.1 to_fills.2.2.2.1 ∈ lw_g ∧ Cond.initialized to_fills.1.cls ∈ lw_g ∧ (to_fills.1.cls ≠ "java/lang/invoke/MethodHandle" ∧ to_fills.1.cls ≠ "java/lang/invoke/VarHandle" ∧ (parseMethodDescriptor to_fills.1.desc).map (fun d => d.parameters.length) = some 2) := ⟨by decide +kernel, by decide +kernel, lw_a5 109 (by decide +kernel) rfl, lw_a1 1 (by decide +kernel) rfl, by decide +kernel, by decide +kernel, by decide +kernel⟩
theorem pk_law_154 : mj_KV law to_fills 154 10 2 := ⟨⟨p0_to_fills.1, p0_to_fills.2.1, p0_to_fills.2.2.1, p0_to_fills.2.2.2.1, p0_to_fills.2.2.2.2, by decide⟩, lw_a5 106 (by decide +kernel) rfl, lw_a5 107 (by decide +kernel) rfl, lw_a5 108 (by decide +kernel) rfl, _, _, rfl⟩
theorem p0_rm_fills : plainFor rm_fills.1 = true ∧ rm_fills.1 ≠ yL_law ∧ Cond.code rm_fills.1 rm_fills.2.1 rm_fills.2.2.1 rm_fills.2.2.2.1 ∈ lw_g ∧ Cond.initialized rm_fills.1.cls ∈ lw_g ∧ (rm_fills.1.cls ≠ "java/lang/invoke/MethodHandle" ∧ rm_fills.1.cls ≠ "java/lang/invoke/VarHandle" ∧ (parseMethodDescriptor rm_fills.1.desc).map (fun d => d.parameters.length) = some 2) := ⟨by decide +kernel, by decide +kernel, lw_a7 178 (by decide +kernel) rfl, lw_a1 10 (by decide +kernel) rfl, by decide +kernel, by decide +kernel, by decide +kernel⟩
theorem pk_law_157 : mj_KV law rm_fills 157 11 2 := ⟨⟨p0_rm_fills.1, p0_rm_fills.2.1, p0_rm_fills.2.2.1, p0_rm_fills.2.2.2.1, p0_rm_fills.2.2.2.2, by decide⟩, lw_a7 175 (by decide +kernel) rfl, lw_a7 176 (by decide +kernel) rfl, lw_a7 177 (by decide +kernel) rfl, _, _, rfl⟩
theorem p0_to_cheapest : plainFor to_cheapest.1 = true ∧ to_cheapest.1 ≠ yL_law ∧ Cond.code to_cheapest.1 to_cheapest.2.1 to_cheapest.2.2.1 to_cheapest.2.2.2.1 ∈ lw_g ∧ Cond.initialized to_cheapest.1.cls ∈ lw_g ∧ (to_cheapest.1.cls ≠ "java/lang/invoke/MethodHandle" ∧ to_cheapest.1.cls ≠ "java/lang/invoke/VarHandle" ∧ (parseMethodDescriptor to_cheapest.1.desc).map (fun d => d.parameters.length) = some 1) := ⟨by decide +kernel, by decide +kernel, lw_a5 113 (by decide +kernel) rfl, lw_a1 1 (by decide +kernel) rfl, by decide +kernel, by decide +kernel, by decide +kernel⟩
theorem pk_law_158 : mj_KV law to_cheapest 158 10 1 := ⟨⟨p0_to_cheapest.1, p0_to_cheapest.2.1, p0_to_cheapest.2.2.1, p0_to_cheapest.2.2.2.1, p0_to_cheapest.2.2.2.2, by decide⟩, lw_a5 110 (by decide +kernel) rfl, lw_a5 111 (by decide +kernel) rfl, lw_a5 112 (by decide +kernel) rfl, _, _, rfl⟩
theorem p0_rm_cheapest : plainFor rm_cheapest.1 = true ∧ rm_cheapest.1 ≠ yL_law ∧ Cond.code rm_cheapest.1 rm_cheapest.2.1 rm_cheapest.2.2.1 rm_cheapest.2.2.2.1 ∈ lw_g ∧ Cond.initialized rm_cheapest.1.cls ∈ lw_g ∧ (rm_cheapest.1.cls ≠ "java/lang/invoke/MethodHandle" ∧ rm_cheapest.1.cls ≠ "java/lang/invoke/VarHandle" ∧ (parseMethodDescriptor rm_cheapest.1.desc).map (fun d => d.parameters.length) = some 1) := ⟨by decide +kernel, by decide +kernel, lw_a7 182 (by decide +kernel) rfl, lw_a1 10 (by decide +kernel) rfl, by decide +kernel, by decide +kernel, by decide +kernel⟩
theorem pk_law_161 : mj_KV law rm_cheapest 161 11 1 := ⟨⟨p0_rm_cheapest.1, p0_rm_cheapest.2.1, p0_rm_cheapest.2.2.1, p0_rm_cheapest.2.2.2.1, p0_rm_cheapest.2.2.2.2, by decide⟩, lw_a7 179 (by decide +kernel) rfl, lw_a7 180 (by decide +kernel) rfl, lw_a7 181 (by decide +kernel) rfl, _, _, rfl⟩
theorem p0_to_forced : plainFor to_forced.1 = true ∧ to_forced.1 ≠ yL_law ∧ Cond.code to_forced.1 to_forced.2.1 to_forced.2.2.1 to_forced.2.2.2.1 ∈ lw_g ∧ Cond.initialized to_forced.1.cls ∈ lw_g ∧ (to_forced.1.cls ≠ "java/lang/invoke/MethodHandle" ∧ to_forced.1.cls ≠ "java/lang/invoke/VarHandle" ∧ (parseMethodDescriptor to_forced.1.desc).map (fun d => d.parameters.length) = some 1) := ⟨by decide +kernel, by decide +kernel, lw_a5 118 (by decide +kernel) rfl, lw_a1 1 (by decide +kernel) rfl, by decide +kernel, by decide +kernel, by decide +kernel⟩
theorem pk_law_162 : mj_KV law to_forced 162 10 1 := ⟨⟨p0_to_forced.1, p0_to_forced.2.1, p0_to_forced.2.2.1, p0_to_forced.2.2.2.1, p0_to_forced.2.2.2.2, by decide⟩, lw_a5 115 (by decide +kernel) rfl, lw_a5 116 (by decide +kernel) rfl, lw_a5 117 (by decide +kernel) rfl, _, _, rfl⟩
theorem p0_rm_forced : plainFor rm_forced.1 = true ∧ rm_forced.1 ≠ yL_law ∧ Cond.code rm_forced.1 rm_forced.2.1 rm_forced.2.2.1 rm_forced.2.2.2.1 ∈ lw_g ∧ Cond.initialized rm_forced.1.cls ∈ lw_g ∧ (rm_forced.1.cls ≠ "java/lang/invoke/MethodHandle" ∧ rm_forced.1.cls ≠ "java/lang/invoke/VarHandle" ∧ (parseMethodDescriptor rm_forced.1.desc).map (fun d => d.parameters.length) = some 1) := ⟨by decide +kernel, by decide +kernel, lw_a7 187 (by decide +kernel) rfl, lw_a1 10 (by decide +kernel) rfl, by decide +kernel, by decide +kernel, by decide +kernel⟩
theorem pk_law_165 : mj_KV law rm_forced 165 11 1 := ⟨⟨p0_rm_forced.1, p0_rm_forced.2.1, p0_rm_forced.2.2.1, p0_rm_forced.2.2.2.1, p0_rm_forced.2.2.2.2, by decide⟩, lw_a7 184 (by decide +kernel) rfl, lw_a7 185 (by decide +kernel) rfl, lw_a7 186 (by decide +kernel) rfl, _, _, rfl⟩
theorem p0_to_shown : plainFor to_shown.1 = true ∧ to_shown.1 ≠ yL_law ∧ Cond.code to_shown.1 to_shown.2.1 to_shown.2.2.1 to_shown.2.2.2.1 ∈ lw_g ∧ Cond.initialized to_shown.1.cls ∈ lw_g ∧ (to_shown.1.cls ≠ "java/lang/invoke/MethodHandle" ∧ to_shown.1.cls ≠ "java/lang/invoke/VarHandle" ∧ (parseMethodDescriptor to_shown.1.desc).map (fun d => d.parameters.length) = some 3) := ⟨by decide +kernel, by decide +kernel, lw_a5 134 (by decide +kernel) rfl, lw_a1 1 (by decide +kernel) rfl, by decide +kernel, by decide +kernel, by decide +kernel⟩
theorem pk_law_166 : mj_KV law to_shown 166 10 3 := ⟨⟨p0_to_shown.1, p0_to_shown.2.1, p0_to_shown.2.2.1, p0_to_shown.2.2.2.1, p0_to_shown.2.2.2.2, by decide⟩, lw_a5 131 (by decide +kernel) rfl, lw_a5 132 (by decide +kernel) rfl, lw_a5 133 (by decide +kernel) rfl, _, _, rfl⟩
theorem p0_rm_shown : plainFor rm_shown.1 = true ∧ rm_shown.1 ≠ yL_law ∧ Cond.code rm_shown.1 rm_shown.2.1 rm_shown.2.2.1 rm_shown.2.2.2.1 ∈ lw_g ∧ Cond.initialized rm_shown.1.cls ∈ lw_g ∧ (rm_shown.1.cls ≠ "java/lang/invoke/MethodHandle" ∧ rm_shown.1.cls ≠ "java/lang/invoke/VarHandle" ∧ (parseMethodDescriptor rm_shown.1.desc).map (fun d => d.parameters.length) = some 3) := ⟨by decide +kernel, by decide +kernel, lw_a7 125 (by decide +kernel) rfl, lw_a1 10 (by decide +kernel) rfl, by decide +kernel, by decide +kernel, by decide +kernel⟩
theorem pk_law_169 : mj_KV law rm_shown 169 11 3 := ⟨⟨p0_rm_shown.1, p0_rm_shown.2.1, p0_rm_shown.2.2.1, p0_rm_shown.2.2.2.1, p0_rm_shown.2.2.2.2, by decide⟩, lw_a7 122 (by decide +kernel) rfl, lw_a7 123 (by decide +kernel) rfl, lw_a7 124 (by decide +kernel) rfl, _, _, rfl⟩
theorem p0_to_undo : plainFor to_undo.1 = true ∧ to_undo.1 ≠ yL_law ∧ Cond.code to_undo.1 to_undo.2.1 to_undo.2.2.1 to_undo.2.2.2.1 ∈ lw_g ∧ Cond.initialized to_undo.1.cls ∈ lw_g ∧ (to_undo.1.cls ≠ "java/lang/invoke/MethodHandle" ∧ to_undo.1.cls ≠ "java/lang/invoke/VarHandle" ∧ (parseMethodDescriptor to_undo.1.desc).map (fun d => d.parameters.length) = some 0) := ⟨by decide +kernel, by decide +kernel, lw_a5 142 (by decide +kernel) rfl, lw_a1 1 (by decide +kernel) rfl, by decide +kernel, by decide +kernel, by decide +kernel⟩
theorem pk_law_170 : mj_KV law to_undo 170 10 0 := ⟨⟨p0_to_undo.1, p0_to_undo.2.1, p0_to_undo.2.2.1, p0_to_undo.2.2.2.1, p0_to_undo.2.2.2.2, by decide⟩, lw_a5 139 (by decide +kernel) rfl, lw_a5 140 (by decide +kernel) rfl, lw_a5 141 (by decide +kernel) rfl, _, _, rfl⟩
theorem p0_rm_undo : plainFor rm_undo.1 = true ∧ rm_undo.1 ≠ yL_law ∧ Cond.code rm_undo.1 rm_undo.2.1 rm_undo.2.2.1 rm_undo.2.2.2.1 ∈ lw_g ∧ Cond.initialized rm_undo.1.cls ∈ lw_g ∧ (rm_undo.1.cls ≠ "java/lang/invoke/MethodHandle" ∧ rm_undo.1.cls ≠ "java/lang/invoke/VarHandle" ∧ (parseMethodDescriptor rm_undo.1.desc).map (fun d => d.parameters.length) = some 0) := ⟨by decide +kernel, by decide +kernel, lw_a6 138 (by decide +kernel) rfl, lw_a1 10 (by decide +kernel) rfl, by decide +kernel, by decide +kernel, by decide +kernel⟩
theorem pk_law_173 : mj_KV law rm_undo 173 11 0 := ⟨⟨p0_rm_undo.1, p0_rm_undo.2.1, p0_rm_undo.2.2.1, p0_rm_undo.2.2.2.1, p0_rm_undo.2.2.2.2, by decide⟩, lw_a6 135 (by decide +kernel) rfl, lw_a6 136 (by decide +kernel) rfl, lw_a6 137 (by decide +kernel) rfl, _, _, rfl⟩
theorem p0_to_about : plainFor to_about.1 = true ∧ to_about.1 ≠ yL_law ∧ Cond.code to_about.1 to_about.2.1 to_about.2.2.1 to_about.2.2.2.1 ∈ lw_g ∧ Cond.initialized to_about.1.cls ∈ lw_g ∧ (to_about.1.cls ≠ "java/lang/invoke/MethodHandle" ∧ to_about.1.cls ≠ "java/lang/invoke/VarHandle" ∧ (parseMethodDescriptor to_about.1.desc).map (fun d => d.parameters.length) = some 1) := ⟨by decide +kernel, by decide +kernel, lw_a5 159 (by decide +kernel) rfl, lw_a1 1 (by decide +kernel) rfl, by decide +kernel, by decide +kernel, by decide +kernel⟩
theorem pk_law_174 : mj_KV law to_about 174 10 1 := ⟨⟨p0_to_about.1, p0_to_about.2.1, p0_to_about.2.2.1, p0_to_about.2.2.2.1, p0_to_about.2.2.2.2, by decide⟩, lw_a5 156 (by decide +kernel) rfl, lw_a5 157 (by decide +kernel) rfl, lw_a5 158 (by decide +kernel) rfl, _, _, rfl⟩
theorem p0_rm_about : plainFor rm_about.1 = true ∧ rm_about.1 ≠ yL_law ∧ Cond.code rm_about.1 rm_about.2.1 rm_about.2.2.1 rm_about.2.2.2.1 ∈ lw_g ∧ Cond.initialized rm_about.1.cls ∈ lw_g ∧ (rm_about.1.cls ≠ "java/lang/invoke/MethodHandle" ∧ rm_about.1.cls ≠ "java/lang/invoke/VarHandle" ∧ (parseMethodDescriptor rm_about.1.desc).map (fun d => d.parameters.length) = some 1) := ⟨by decide +kernel, by decide +kernel, lw_a7 191 (by decide +kernel) rfl, lw_a1 10 (by decide +kernel) rfl, by decide +kernel, by decide +kernel, by decide +kernel⟩
theorem pk_law_177 : mj_KV law rm_about 177 11 1 := ⟨⟨p0_rm_about.1, p0_rm_about.2.1, p0_rm_about.2.2.1, p0_rm_about.2.2.2.1, p0_rm_about.2.2.2.2, by decide⟩, lw_a7 188 (by decide +kernel) rfl, lw_a7 189 (by decide +kernel) rfl, lw_a7 190 (by decide +kernel) rfl, _, _, rfl⟩
theorem pw_oi : Cond.instanceMethod objectInit ∈ lw_g := lw_a1 25 (by decide +kernel) rfl
theorem pw_oc : Cond.code objectInit ⟨#[0xb1]⟩ 1 none ∈ lw_g := lw_a1 26 (by decide +kernel) rfl
theorem pw_an : Cond.native arraycopyName ∈ lw_g := lw_a2 156 (by decide +kernel) rfl
theorem pw_as : Cond.static arraycopyName ∈ lw_g := lw_a2 155 (by decide +kernel) rfl
theorem pw_si : Cond.initialized "java/lang/System" ∈ lw_g := lw_a1 12 (by decide +kernel) rfl
theorem pw_cs : Cond.sameMethod "[I" "java/lang/Object" "clone" "()Ljava/lang/Object;" ∈ lw_g := lw_a2 232 (by decide +kernel) rfl
theorem pw_cn : Cond.native ⟨"java/lang/Object", "clone", "()Ljava/lang/Object;"⟩ ∈ lw_g := lw_a2 233 (by decide +kernel) rfl
theorem pw_ci : Cond.instanceMethod ⟨"java/lang/Object", "clone", "()Ljava/lang/Object;"⟩ ∈ lw_g := lw_a2 234 (by decide +kernel) rfl
theorem pw_cl : Cond.selects "[I" ⟨"[I", "clone", "()Ljava/lang/Object;"⟩ ⟨"java/lang/Object", "clone", "()Ljava/lang/Object;"⟩ ∈ lw_g := lw_a2 235 (by decide +kernel) rfl
theorem pw_ai : Cond.arrayClass .int ∈ lw_g := lw_a1 55 (by decide +kernel) rfl
theorem pw_al : Cond.arrayClass .long ∈ lw_g := lw_a1 57 (by decide +kernel) rfl
theorem pw_ab : Cond.arrayClass .boolean ∈ lw_g := lw_a1 56 (by decide +kernel) rfl
end
