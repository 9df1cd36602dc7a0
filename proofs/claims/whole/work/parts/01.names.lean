-- ===== PART A: goes FIRST, ahead of the names: the tables' words, and 'selects' of the private methods out of them =====
/-- a private method of a class that the tables say can be made, by its rows of tables_1 -/
def lw_okq (q : MethodName × Nat) : Prop := (q.1.cls ≠ "java/lang/invoke/MethodHandle" ∧ q.1.cls ≠ "java/lang/invoke/VarHandle") ∧ Cond.instantiable q.1.cls q.2 ∈ tables_1 ∧ Cond.privateMethod q.1 ∈ tables_1 ∧ Cond.instanceMethod q.1 ∈ tables_1
theorem lw_p0 : lw_okq (⟨"TileOffice", "keep", "(LTileOffice$Pattern;)I"⟩, 15) := ⟨⟨by decide +kernel, by decide +kernel⟩, List.mem_of_getElem? (i := 20) (by decide +kernel), List.mem_of_getElem? (i := 372) (by decide +kernel), List.mem_of_getElem? (i := 373) (by decide +kernel)⟩
theorem lw_p1 : lw_okq (⟨"TileOffice", "patternOf", "(I)LTileOffice$Pattern;"⟩, 15) := ⟨⟨by decide +kernel, by decide +kernel⟩, List.mem_of_getElem? (i := 20) (by decide +kernel), List.mem_of_getElem? (i := 380) (by decide +kernel), List.mem_of_getElem? (i := 381) (by decide +kernel)⟩
theorem lw_p2 : lw_okq (⟨"TileOffice$RowStore", "enter", "([II)I"⟩, 3) := ⟨⟨by decide +kernel, by decide +kernel⟩, List.mem_of_getElem? (i := 172) (by decide +kernel), List.mem_of_getElem? (i := 409) (by decide +kernel), List.mem_of_getElem? (i := 410) (by decide +kernel)⟩
theorem lw_p3 : lw_okq (⟨"TileOffice", "setCell", "(IIII)Z"⟩, 15) := ⟨⟨by decide +kernel, by decide +kernel⟩, List.mem_of_getElem? (i := 20) (by decide +kernel), List.mem_of_getElem? (i := 443) (by decide +kernel), List.mem_of_getElem? (i := 444) (by decide +kernel)⟩
theorem lw_p4 : lw_okq (⟨"TileOffice$RowStore", "cellsOf", "(I)[I"⟩, 3) := ⟨⟨by decide +kernel, by decide +kernel⟩, List.mem_of_getElem? (i := 172) (by decide +kernel), List.mem_of_getElem? (i := 456) (by decide +kernel), List.mem_of_getElem? (i := 457) (by decide +kernel)⟩
theorem lw_p5 : lw_okq (⟨"TileOffice", "isKindInMove", "(II)Z"⟩, 15) := ⟨⟨by decide +kernel, by decide +kernel⟩, List.mem_of_getElem? (i := 20) (by decide +kernel), List.mem_of_getElem? (i := 482) (by decide +kernel), List.mem_of_getElem? (i := 483) (by decide +kernel)⟩
theorem lw_p6 : lw_okq (⟨"TileOffice", "placesOf", "(I)I"⟩, 15) := ⟨⟨by decide +kernel, by decide +kernel⟩, List.mem_of_getElem? (i := 20) (by decide +kernel), List.mem_of_getElem? (i := 522) (by decide +kernel), List.mem_of_getElem? (i := 523) (by decide +kernel)⟩
theorem lw_p7 : lw_okq (⟨"TileOffice$Block", "setCell", "(III)V"⟩, 3) := ⟨⟨by decide +kernel, by decide +kernel⟩, List.mem_of_getElem? (i := 216) (by decide +kernel), List.mem_of_getElem? (i := 567) (by decide +kernel), List.mem_of_getElem? (i := 568) (by decide +kernel)⟩
theorem lw_p8 : lw_okq (⟨"TileOffice$Block", "hasPlace", "(II)Z"⟩, 3) := ⟨⟨by decide +kernel, by decide +kernel⟩, List.mem_of_getElem? (i := 216) (by decide +kernel), List.mem_of_getElem? (i := 571) (by decide +kernel), List.mem_of_getElem? (i := 572) (by decide +kernel)⟩
theorem lw_p9 : lw_okq (⟨"TileOffice", "cellsThatCome", "(LTileOffice$Pattern;III)I"⟩, 15) := ⟨⟨by decide +kernel, by decide +kernel⟩, List.mem_of_getElem? (i := 20) (by decide +kernel), List.mem_of_getElem? (i := 607) (by decide +kernel), List.mem_of_getElem? (i := 608) (by decide +kernel)⟩
theorem lw_p10 : lw_okq (⟨"TileOffice", "comes", "(LTileOffice$Pattern;IIII)Z"⟩, 15) := ⟨⟨by decide +kernel, by decide +kernel⟩, List.mem_of_getElem? (i := 20) (by decide +kernel), List.mem_of_getElem? (i := 611) (by decide +kernel), List.mem_of_getElem? (i := 612) (by decide +kernel)⟩
theorem lw_p11 : lw_okq (⟨"TileOffice", "pasteRows", "(LTileOffice$Pattern;II)V"⟩, 15) := ⟨⟨by decide +kernel, by decide +kernel⟩, List.mem_of_getElem? (i := 20) (by decide +kernel), List.mem_of_getElem? (i := 616) (by decide +kernel), List.mem_of_getElem? (i := 617) (by decide +kernel)⟩
theorem lw_p12 : lw_okq (⟨"TileOffice", "ruleOf", "(I)LTileOffice$Rule;"⟩, 15) := ⟨⟨by decide +kernel, by decide +kernel⟩, List.mem_of_getElem? (i := 20) (by decide +kernel), List.mem_of_getElem? (i := 655) (by decide +kernel), List.mem_of_getElem? (i := 656) (by decide +kernel)⟩
theorem lw_p13 : lw_okq (⟨"TileOffice$Rule", "hasCell", "(III)Z"⟩, 5) := ⟨⟨by decide +kernel, by decide +kernel⟩, List.mem_of_getElem? (i := 626) (by decide +kernel), List.mem_of_getElem? (i := 667) (by decide +kernel), List.mem_of_getElem? (i := 668) (by decide +kernel)⟩
theorem lw_p14 : lw_okq (⟨"TileOffice", "growsStraight", "(LTileOffice$Pattern;LTileOffice$Rule;I)Z"⟩, 15) := ⟨⟨by decide +kernel, by decide +kernel⟩, List.mem_of_getElem? (i := 20) (by decide +kernel), List.mem_of_getElem? (i := 687) (by decide +kernel), List.mem_of_getElem? (i := 688) (by decide +kernel)⟩
theorem lw_p15 : lw_okq (⟨"TileOffice", "grownCell", "(LTileOffice$Pattern;LTileOffice$Rule;III)I"⟩, 15) := ⟨⟨by decide +kernel, by decide +kernel⟩, List.mem_of_getElem? (i := 20) (by decide +kernel), List.mem_of_getElem? (i := 691) (by decide +kernel), List.mem_of_getElem? (i := 692) (by decide +kernel)⟩
def lw_privs_1 : List (MethodName × Nat) := [(⟨"TileOffice", "keep", "(LTileOffice$Pattern;)I"⟩, 15), (⟨"TileOffice", "patternOf", "(I)LTileOffice$Pattern;"⟩, 15), (⟨"TileOffice$RowStore", "enter", "([II)I"⟩, 3), (⟨"TileOffice", "setCell", "(IIII)Z"⟩, 15), (⟨"TileOffice$RowStore", "cellsOf", "(I)[I"⟩, 3), (⟨"TileOffice", "isKindInMove", "(II)Z"⟩, 15), (⟨"TileOffice", "placesOf", "(I)I"⟩, 15), (⟨"TileOffice$Block", "setCell", "(III)V"⟩, 3), (⟨"TileOffice$Block", "hasPlace", "(II)Z"⟩, 3), (⟨"TileOffice", "cellsThatCome", "(LTileOffice$Pattern;III)I"⟩, 15), (⟨"TileOffice", "comes", "(LTileOffice$Pattern;IIII)Z"⟩, 15), (⟨"TileOffice", "pasteRows", "(LTileOffice$Pattern;II)V"⟩, 15), (⟨"TileOffice", "ruleOf", "(I)LTileOffice$Rule;"⟩, 15), (⟨"TileOffice$Rule", "hasCell", "(III)Z"⟩, 5), (⟨"TileOffice", "growsStraight", "(LTileOffice$Pattern;LTileOffice$Rule;I)Z"⟩, 15), (⟨"TileOffice", "grownCell", "(LTileOffice$Pattern;LTileOffice$Rule;III)I"⟩, 15)]
theorem lw_r1 : ∀ q ∈ lw_privs_1, lw_okq q := List.forall_mem_cons.mpr ⟨lw_p0, List.forall_mem_cons.mpr ⟨lw_p1, List.forall_mem_cons.mpr ⟨lw_p2, List.forall_mem_cons.mpr ⟨lw_p3, List.forall_mem_cons.mpr ⟨lw_p4, List.forall_mem_cons.mpr ⟨lw_p5, List.forall_mem_cons.mpr ⟨lw_p6, List.forall_mem_cons.mpr ⟨lw_p7, List.forall_mem_cons.mpr ⟨lw_p8, List.forall_mem_cons.mpr ⟨lw_p9, List.forall_mem_cons.mpr ⟨lw_p10, List.forall_mem_cons.mpr ⟨lw_p11, List.forall_mem_cons.mpr ⟨lw_p12, List.forall_mem_cons.mpr ⟨lw_p13, List.forall_mem_cons.mpr ⟨lw_p14, List.forall_mem_cons.mpr ⟨lw_p15, fun _ h => absurd h List.not_mem_nil⟩⟩⟩⟩⟩⟩⟩⟩⟩⟩⟩⟩⟩⟩⟩⟩
theorem lw_p16 : lw_okq (⟨"TileOffice$Rule", "rowBefore", "(III)I"⟩, 5) := ⟨⟨by decide +kernel, by decide +kernel⟩, List.mem_of_getElem? (i := 626) (by decide +kernel), List.mem_of_getElem? (i := 706) (by decide +kernel), List.mem_of_getElem? (i := 707) (by decide +kernel)⟩
theorem lw_p17 : lw_okq (⟨"TileOffice$Rule", "columnBefore", "(III)I"⟩, 5) := ⟨⟨by decide +kernel, by decide +kernel⟩, List.mem_of_getElem? (i := 626) (by decide +kernel), List.mem_of_getElem? (i := 710) (by decide +kernel), List.mem_of_getElem? (i := 711) (by decide +kernel)⟩
theorem lw_p18 : lw_okq (⟨"TileOffice$Rule", "cellAt", "(III)I"⟩, 5) := ⟨⟨by decide +kernel, by decide +kernel⟩, List.mem_of_getElem? (i := 626) (by decide +kernel), List.mem_of_getElem? (i := 715) (by decide +kernel), List.mem_of_getElem? (i := 716) (by decide +kernel)⟩
theorem lw_p19 : lw_okq (⟨"TileOffice", "grownRow", "(LTileOffice$Pattern;LTileOffice$Rule;II)I"⟩, 15) := ⟨⟨by decide +kernel, by decide +kernel⟩, List.mem_of_getElem? (i := 20) (by decide +kernel), List.mem_of_getElem? (i := 722) (by decide +kernel), List.mem_of_getElem? (i := 723) (by decide +kernel)⟩
theorem lw_p20 : lw_okq (⟨"TileOffice$Rule", "foretellStep", "([J[J)V"⟩, 5) := ⟨⟨by decide +kernel, by decide +kernel⟩, List.mem_of_getElem? (i := 626) (by decide +kernel), List.mem_of_getElem? (i := 739) (by decide +kernel), List.mem_of_getElem? (i := 740) (by decide +kernel)⟩
theorem lw_p21 : lw_okq (⟨"TileOffice", "markFound", "(LTileOffice$Pattern;I)V"⟩, 15) := ⟨⟨by decide +kernel, by decide +kernel⟩, List.mem_of_getElem? (i := 20) (by decide +kernel), List.mem_of_getElem? (i := 803) (by decide +kernel), List.mem_of_getElem? (i := 804) (by decide +kernel)⟩
theorem lw_p22 : lw_okq (⟨"TileOffice", "foundAt", "(I)I"⟩, 15) := ⟨⟨by decide +kernel, by decide +kernel⟩, List.mem_of_getElem? (i := 20) (by decide +kernel), List.mem_of_getElem? (i := 808) (by decide +kernel), List.mem_of_getElem? (i := 809) (by decide +kernel)⟩
theorem lw_p23 : lw_okq (⟨"TileOffice", "floorOf", "(I)LTileOffice$Floor;"⟩, 15) := ⟨⟨by decide +kernel, by decide +kernel⟩, List.mem_of_getElem? (i := 20) (by decide +kernel), List.mem_of_getElem? (i := 856) (by decide +kernel), List.mem_of_getElem? (i := 857) (by decide +kernel)⟩
theorem lw_p24 : lw_okq (⟨"TileOffice$Choices", "enter", "(I)V"⟩, 4) := ⟨⟨by decide +kernel, by decide +kernel⟩, List.mem_of_getElem? (i := 61) (by decide +kernel), List.mem_of_getElem? (i := 903) (by decide +kernel), List.mem_of_getElem? (i := 904) (by decide +kernel)⟩
theorem lw_p25 : lw_okq (⟨"TileOffice$Choices", "mark", "(II)V"⟩, 4) := ⟨⟨by decide +kernel, by decide +kernel⟩, List.mem_of_getElem? (i := 61) (by decide +kernel), List.mem_of_getElem? (i := 912) (by decide +kernel), List.mem_of_getElem? (i := 913) (by decide +kernel)⟩
theorem lw_p26 : lw_okq (⟨"TileOffice$Board", "has", "(I)Z"⟩, 11) := ⟨⟨by decide +kernel, by decide +kernel⟩, List.mem_of_getElem? (i := 59) (by decide +kernel), List.mem_of_getElem? (i := 920) (by decide +kernel), List.mem_of_getElem? (i := 921) (by decide +kernel)⟩
theorem lw_p27 : lw_okq (⟨"TileOffice$Board", "lookAround", "(I)V"⟩, 11) := ⟨⟨by decide +kernel, by decide +kernel⟩, List.mem_of_getElem? (i := 59) (by decide +kernel), List.mem_of_getElem? (i := 929) (by decide +kernel), List.mem_of_getElem? (i := 930) (by decide +kernel)⟩
theorem lw_p28 : lw_okq (⟨"TileOffice$Board", "beside", "(II)I"⟩, 11) := ⟨⟨by decide +kernel, by decide +kernel⟩, List.mem_of_getElem? (i := 59) (by decide +kernel), List.mem_of_getElem? (i := 933) (by decide +kernel), List.mem_of_getElem? (i := 934) (by decide +kernel)⟩
theorem lw_p29 : lw_okq (⟨"TileOffice$Board", "codeAt", "(I)I"⟩, 11) := ⟨⟨by decide +kernel, by decide +kernel⟩, List.mem_of_getElem? (i := 59) (by decide +kernel), List.mem_of_getElem? (i := 937) (by decide +kernel), List.mem_of_getElem? (i := 938) (by decide +kernel)⟩
theorem lw_p30 : lw_okq (⟨"TileOffice$Board", "recountAll", "()V"⟩, 11) := ⟨⟨by decide +kernel, by decide +kernel⟩, List.mem_of_getElem? (i := 59) (by decide +kernel), List.mem_of_getElem? (i := 942) (by decide +kernel), List.mem_of_getElem? (i := 943) (by decide +kernel)⟩
theorem lw_p31 : lw_okq (⟨"TileOffice$Board", "recount", "(I)V"⟩, 11) := ⟨⟨by decide +kernel, by decide +kernel⟩, List.mem_of_getElem? (i := 59) (by decide +kernel), List.mem_of_getElem? (i := 946) (by decide +kernel), List.mem_of_getElem? (i := 947) (by decide +kernel)⟩
def lw_privs_2 : List (MethodName × Nat) := [(⟨"TileOffice$Rule", "rowBefore", "(III)I"⟩, 5), (⟨"TileOffice$Rule", "columnBefore", "(III)I"⟩, 5), (⟨"TileOffice$Rule", "cellAt", "(III)I"⟩, 5), (⟨"TileOffice", "grownRow", "(LTileOffice$Pattern;LTileOffice$Rule;II)I"⟩, 15), (⟨"TileOffice$Rule", "foretellStep", "([J[J)V"⟩, 5), (⟨"TileOffice", "markFound", "(LTileOffice$Pattern;I)V"⟩, 15), (⟨"TileOffice", "foundAt", "(I)I"⟩, 15), (⟨"TileOffice", "floorOf", "(I)LTileOffice$Floor;"⟩, 15), (⟨"TileOffice$Choices", "enter", "(I)V"⟩, 4), (⟨"TileOffice$Choices", "mark", "(II)V"⟩, 4), (⟨"TileOffice$Board", "has", "(I)Z"⟩, 11), (⟨"TileOffice$Board", "lookAround", "(I)V"⟩, 11), (⟨"TileOffice$Board", "beside", "(II)I"⟩, 11), (⟨"TileOffice$Board", "codeAt", "(I)I"⟩, 11), (⟨"TileOffice$Board", "recountAll", "()V"⟩, 11), (⟨"TileOffice$Board", "recount", "(I)V"⟩, 11)]
theorem lw_r2 : ∀ q ∈ lw_privs_2, lw_okq q := List.forall_mem_cons.mpr ⟨lw_p16, List.forall_mem_cons.mpr ⟨lw_p17, List.forall_mem_cons.mpr ⟨lw_p18, List.forall_mem_cons.mpr ⟨lw_p19, List.forall_mem_cons.mpr ⟨lw_p20, List.forall_mem_cons.mpr ⟨lw_p21, List.forall_mem_cons.mpr ⟨lw_p22, List.forall_mem_cons.mpr ⟨lw_p23, List.forall_mem_cons.mpr ⟨lw_p24, List.forall_mem_cons.mpr ⟨lw_p25, List.forall_mem_cons.mpr ⟨lw_p26, List.forall_mem_cons.mpr ⟨lw_p27, List.forall_mem_cons.mpr ⟨lw_p28, List.forall_mem_cons.mpr ⟨lw_p29, List.forall_mem_cons.mpr ⟨lw_p30, List.forall_mem_cons.mpr ⟨lw_p31, fun _ h => absurd h List.not_mem_nil⟩⟩⟩⟩⟩⟩⟩⟩⟩⟩⟩⟩⟩⟩⟩⟩
theorem lw_p32 : lw_okq (⟨"TileOffice$Board", "isWaiting", "(I)Z"⟩, 11) := ⟨⟨by decide +kernel, by decide +kernel⟩, List.mem_of_getElem? (i := 59) (by decide +kernel), List.mem_of_getElem? (i := 950) (by decide +kernel), List.mem_of_getElem? (i := 951) (by decide +kernel)⟩
theorem lw_p33 : lw_okq (⟨"TileOffice$Search", "leastCostOn", "(LTileOffice$Floor;)I"⟩, 13) := ⟨⟨by decide +kernel, by decide +kernel⟩, List.mem_of_getElem? (i := 122) (by decide +kernel), List.mem_of_getElem? (i := 967) (by decide +kernel), List.mem_of_getElem? (i := 968) (by decide +kernel)⟩
theorem lw_p34 : lw_okq (⟨"TileOffice$Search", "noteFill", "(LTileOffice$Floor;)V"⟩, 13) := ⟨⟨by decide +kernel, by decide +kernel⟩, List.mem_of_getElem? (i := 122) (by decide +kernel), List.mem_of_getElem? (i := 985) (by decide +kernel), List.mem_of_getElem? (i := 986) (by decide +kernel)⟩
theorem lw_p35 : lw_okq (⟨"TileOffice$Search", "openDepth", "(I)V"⟩, 13) := ⟨⟨by decide +kernel, by decide +kernel⟩, List.mem_of_getElem? (i := 122) (by decide +kernel), List.mem_of_getElem? (i := 997) (by decide +kernel), List.mem_of_getElem? (i := 998) (by decide +kernel)⟩
theorem lw_p36 : lw_okq (⟨"TileOffice$Search", "nextTry", "()I"⟩, 13) := ⟨⟨by decide +kernel, by decide +kernel⟩, List.mem_of_getElem? (i := 122) (by decide +kernel), List.mem_of_getElem? (i := 1006) (by decide +kernel), List.mem_of_getElem? (i := 1007) (by decide +kernel)⟩
theorem lw_p37 : lw_okq (⟨"TileOffice$Search", "isPassedOver", "(I)Z"⟩, 13) := ⟨⟨by decide +kernel, by decide +kernel⟩, List.mem_of_getElem? (i := 122) (by decide +kernel), List.mem_of_getElem? (i := 1022) (by decide +kernel), List.mem_of_getElem? (i := 1023) (by decide +kernel)⟩
theorem lw_p38 : lw_okq (⟨"TileOffice$Search", "costOf", "(I)I"⟩, 13) := ⟨⟨by decide +kernel, by decide +kernel⟩, List.mem_of_getElem? (i := 122) (by decide +kernel), List.mem_of_getElem? (i := 1026) (by decide +kernel), List.mem_of_getElem? (i := 1027) (by decide +kernel)⟩
theorem lw_p39 : lw_okq (⟨"TileOffice$Search", "openAgain", "(I)V"⟩, 13) := ⟨⟨by decide +kernel, by decide +kernel⟩, List.mem_of_getElem? (i := 122) (by decide +kernel), List.mem_of_getElem? (i := 1034) (by decide +kernel), List.mem_of_getElem? (i := 1035) (by decide +kernel)⟩
theorem lw_p40 : lw_okq (⟨"TileOffice$Board", "changeLeft", "(II)Z"⟩, 11) := ⟨⟨by decide +kernel, by decide +kernel⟩, List.mem_of_getElem? (i := 59) (by decide +kernel), List.mem_of_getElem? (i := 1042) (by decide +kernel), List.mem_of_getElem? (i := 1043) (by decide +kernel)⟩
theorem lw_p41 : lw_okq (⟨"TileOffice$Board", "flipLeftBits", "(I)V"⟩, 11) := ⟨⟨by decide +kernel, by decide +kernel⟩, List.mem_of_getElem? (i := 59) (by decide +kernel), List.mem_of_getElem? (i := 1047) (by decide +kernel), List.mem_of_getElem? (i := 1048) (by decide +kernel)⟩
theorem lw_p42 : lw_okq (⟨"TileOffice$Board", "tellAround", "(I)V"⟩, 11) := ⟨⟨by decide +kernel, by decide +kernel⟩, List.mem_of_getElem? (i := 59) (by decide +kernel), List.mem_of_getElem? (i := 1051) (by decide +kernel), List.mem_of_getElem? (i := 1052) (by decide +kernel)⟩
theorem lw_p43 : lw_okq (⟨"TileOffice$Search", "noteTry", "(I)V"⟩, 13) := ⟨⟨by decide +kernel, by decide +kernel⟩, List.mem_of_getElem? (i := 122) (by decide +kernel), List.mem_of_getElem? (i := 1055) (by decide +kernel), List.mem_of_getElem? (i := 1056) (by decide +kernel)⟩
theorem lw_p44 : lw_okq (⟨"TileOffice$Board", "forceRound", "()I"⟩, 11) := ⟨⟨by decide +kernel, by decide +kernel⟩, List.mem_of_getElem? (i := 59) (by decide +kernel), List.mem_of_getElem? (i := 1085) (by decide +kernel), List.mem_of_getElem? (i := 1086) (by decide +kernel)⟩
theorem lw_p45 : lw_okq (⟨"TileOffice$History", "latest", "()I"⟩, 5) := ⟨⟨by decide +kernel, by decide +kernel⟩, List.mem_of_getElem? (i := 193) (by decide +kernel), List.mem_of_getElem? (i := 1108) (by decide +kernel), List.mem_of_getElem? (i := 1109) (by decide +kernel)⟩
theorem lw_p46 : lw_okq (⟨"TileOfficeModel", "isKind", "(I)Z"⟩, 55) := ⟨⟨by decide +kernel, by decide +kernel⟩, List.mem_of_getElem? (i := 1121) (by decide +kernel), List.mem_of_getElem? (i := 1324) (by decide +kernel), List.mem_of_getElem? (i := 1325) (by decide +kernel)⟩
theorem lw_p47 : lw_okq (⟨"TileOfficeModel", "lies", "(II)I"⟩, 55) := ⟨⟨by decide +kernel, by decide +kernel⟩, List.mem_of_getElem? (i := 1121) (by decide +kernel), List.mem_of_getElem? (i := 1328) (by decide +kernel), List.mem_of_getElem? (i := 1329) (by decide +kernel)⟩
def lw_privs_3 : List (MethodName × Nat) := [(⟨"TileOffice$Board", "isWaiting", "(I)Z"⟩, 11), (⟨"TileOffice$Search", "leastCostOn", "(LTileOffice$Floor;)I"⟩, 13), (⟨"TileOffice$Search", "noteFill", "(LTileOffice$Floor;)V"⟩, 13), (⟨"TileOffice$Search", "openDepth", "(I)V"⟩, 13), (⟨"TileOffice$Search", "nextTry", "()I"⟩, 13), (⟨"TileOffice$Search", "isPassedOver", "(I)Z"⟩, 13), (⟨"TileOffice$Search", "costOf", "(I)I"⟩, 13), (⟨"TileOffice$Search", "openAgain", "(I)V"⟩, 13), (⟨"TileOffice$Board", "changeLeft", "(II)Z"⟩, 11), (⟨"TileOffice$Board", "flipLeftBits", "(I)V"⟩, 11), (⟨"TileOffice$Board", "tellAround", "(I)V"⟩, 11), (⟨"TileOffice$Search", "noteTry", "(I)V"⟩, 13), (⟨"TileOffice$Board", "forceRound", "()I"⟩, 11), (⟨"TileOffice$History", "latest", "()I"⟩, 5), (⟨"TileOfficeModel", "isKind", "(I)Z"⟩, 55), (⟨"TileOfficeModel", "lies", "(II)I"⟩, 55)]
theorem lw_r3 : ∀ q ∈ lw_privs_3, lw_okq q := List.forall_mem_cons.mpr ⟨lw_p32, List.forall_mem_cons.mpr ⟨lw_p33, List.forall_mem_cons.mpr ⟨lw_p34, List.forall_mem_cons.mpr ⟨lw_p35, List.forall_mem_cons.mpr ⟨lw_p36, List.forall_mem_cons.mpr ⟨lw_p37, List.forall_mem_cons.mpr ⟨lw_p38, List.forall_mem_cons.mpr ⟨lw_p39, List.forall_mem_cons.mpr ⟨lw_p40, List.forall_mem_cons.mpr ⟨lw_p41, List.forall_mem_cons.mpr ⟨lw_p42, List.forall_mem_cons.mpr ⟨lw_p43, List.forall_mem_cons.mpr ⟨lw_p44, List.forall_mem_cons.mpr ⟨lw_p45, List.forall_mem_cons.mpr ⟨lw_p46, List.forall_mem_cons.mpr ⟨lw_p47, fun _ h => absurd h List.not_mem_nil⟩⟩⟩⟩⟩⟩⟩⟩⟩⟩⟩⟩⟩⟩⟩⟩
theorem lw_p48 : lw_okq (⟨"TileOfficeModel", "colour", "(III)I"⟩, 55) := ⟨⟨by decide +kernel, by decide +kernel⟩, List.mem_of_getElem? (i := 1121) (by decide +kernel), List.mem_of_getElem? (i := 1332) (by decide +kernel), List.mem_of_getElem? (i := 1333) (by decide +kernel)⟩
theorem lw_p49 : lw_okq (⟨"TileOfficeModel", "isPattern", "(I)Z"⟩, 55) := ⟨⟨by decide +kernel, by decide +kernel⟩, List.mem_of_getElem? (i := 1121) (by decide +kernel), List.mem_of_getElem? (i := 1348) (by decide +kernel), List.mem_of_getElem? (i := 1349) (by decide +kernel)⟩
theorem lw_p50 : lw_okq (⟨"TileOfficeModel", "keep", "(I)V"⟩, 55) := ⟨⟨by decide +kernel, by decide +kernel⟩, List.mem_of_getElem? (i := 1121) (by decide +kernel), List.mem_of_getElem? (i := 1352) (by decide +kernel), List.mem_of_getElem? (i := 1353) (by decide +kernel)⟩
theorem lw_p51 : lw_okq (⟨"TileOfficeModel", "rowOf", "(II)I"⟩, 55) := ⟨⟨by decide +kernel, by decide +kernel⟩, List.mem_of_getElem? (i := 1121) (by decide +kernel), List.mem_of_getElem? (i := 1356) (by decide +kernel), List.mem_of_getElem? (i := 1357) (by decide +kernel)⟩
theorem lw_p52 : lw_okq (⟨"TileOfficeModel", "newRow", "(II)I"⟩, 55) := ⟨⟨by decide +kernel, by decide +kernel⟩, List.mem_of_getElem? (i := 1121) (by decide +kernel), List.mem_of_getElem? (i := 1360) (by decide +kernel), List.mem_of_getElem? (i := 1361) (by decide +kernel)⟩
theorem lw_p53 : lw_okq (⟨"TileOfficeModel", "takeRow", "(II)V"⟩, 55) := ⟨⟨by decide +kernel, by decide +kernel⟩, List.mem_of_getElem? (i := 1121) (by decide +kernel), List.mem_of_getElem? (i := 1368) (by decide +kernel), List.mem_of_getElem? (i := 1369) (by decide +kernel)⟩
theorem lw_p54 : lw_okq (⟨"TileOfficeModel", "has", "(IJJ)Z"⟩, 55) := ⟨⟨by decide +kernel, by decide +kernel⟩, List.mem_of_getElem? (i := 1121) (by decide +kernel), List.mem_of_getElem? (i := 1380) (by decide +kernel), List.mem_of_getElem? (i := 1381) (by decide +kernel)⟩
theorem lw_p55 : lw_okq (⟨"TileOfficeModel", "sets", "(IIII)Z"⟩, 55) := ⟨⟨by decide +kernel, by decide +kernel⟩, List.mem_of_getElem? (i := 1121) (by decide +kernel), List.mem_of_getElem? (i := 1387) (by decide +kernel), List.mem_of_getElem? (i := 1388) (by decide +kernel)⟩
theorem lw_p56 : lw_okq (⟨"TileOfficeModel", "own", "(II)V"⟩, 55) := ⟨⟨by decide +kernel, by decide +kernel⟩, List.mem_of_getElem? (i := 1121) (by decide +kernel), List.mem_of_getElem? (i := 1391) (by decide +kernel), List.mem_of_getElem? (i := 1392) (by decide +kernel)⟩
theorem lw_p57 : lw_okq (⟨"TileOfficeModel", "placeOf", "(III)I"⟩, 55) := ⟨⟨by decide +kernel, by decide +kernel⟩, List.mem_of_getElem? (i := 1121) (by decide +kernel), List.mem_of_getElem? (i := 1395) (by decide +kernel), List.mem_of_getElem? (i := 1396) (by decide +kernel)⟩
theorem lw_p58 : lw_okq (⟨"TileOfficeModel", "cellAt", "(III)I"⟩, 55) := ⟨⟨by decide +kernel, by decide +kernel⟩, List.mem_of_getElem? (i := 1121) (by decide +kernel), List.mem_of_getElem? (i := 1403) (by decide +kernel), List.mem_of_getElem? (i := 1404) (by decide +kernel)⟩
theorem lw_p59 : lw_okq (⟨"TileOfficeModel", "comesFrom", "(IIIII)V"⟩, 55) := ⟨⟨by decide +kernel, by decide +kernel⟩, List.mem_of_getElem? (i := 1121) (by decide +kernel), List.mem_of_getElem? (i := 1441) (by decide +kernel), List.mem_of_getElem? (i := 1442) (by decide +kernel)⟩
theorem lw_p60 : lw_okq (⟨"TileOfficeModel", "moved", "(II)I"⟩, 55) := ⟨⟨by decide +kernel, by decide +kernel⟩, List.mem_of_getElem? (i := 1121) (by decide +kernel), List.mem_of_getElem? (i := 1445) (by decide +kernel), List.mem_of_getElem? (i := 1446) (by decide +kernel)⟩
theorem lw_p61 : lw_okq (⟨"TileOfficeModel", "comes", "(IIII)I"⟩, 55) := ⟨⟨by decide +kernel, by decide +kernel⟩, List.mem_of_getElem? (i := 1121) (by decide +kernel), List.mem_of_getElem? (i := 1453) (by decide +kernel), List.mem_of_getElem? (i := 1454) (by decide +kernel)⟩
theorem lw_p62 : lw_okq (⟨"TileOfficeModel", "isRule", "(I)Z"⟩, 55) := ⟨⟨by decide +kernel, by decide +kernel⟩, List.mem_of_getElem? (i := 1121) (by decide +kernel), List.mem_of_getElem? (i := 1465) (by decide +kernel), List.mem_of_getElem? (i := 1466) (by decide +kernel)⟩
theorem lw_p63 : lw_okq (⟨"TileOfficeModel", "grown", "(III)Z"⟩, 55) := ⟨⟨by decide +kernel, by decide +kernel⟩, List.mem_of_getElem? (i := 1121) (by decide +kernel), List.mem_of_getElem? (i := 1473) (by decide +kernel), List.mem_of_getElem? (i := 1474) (by decide +kernel)⟩
def lw_privs_4 : List (MethodName × Nat) := [(⟨"TileOfficeModel", "colour", "(III)I"⟩, 55), (⟨"TileOfficeModel", "isPattern", "(I)Z"⟩, 55), (⟨"TileOfficeModel", "keep", "(I)V"⟩, 55), (⟨"TileOfficeModel", "rowOf", "(II)I"⟩, 55), (⟨"TileOfficeModel", "newRow", "(II)I"⟩, 55), (⟨"TileOfficeModel", "takeRow", "(II)V"⟩, 55), (⟨"TileOfficeModel", "has", "(IJJ)Z"⟩, 55), (⟨"TileOfficeModel", "sets", "(IIII)Z"⟩, 55), (⟨"TileOfficeModel", "own", "(II)V"⟩, 55), (⟨"TileOfficeModel", "placeOf", "(III)I"⟩, 55), (⟨"TileOfficeModel", "cellAt", "(III)I"⟩, 55), (⟨"TileOfficeModel", "comesFrom", "(IIIII)V"⟩, 55), (⟨"TileOfficeModel", "moved", "(II)I"⟩, 55), (⟨"TileOfficeModel", "comes", "(IIII)I"⟩, 55), (⟨"TileOfficeModel", "isRule", "(I)Z"⟩, 55), (⟨"TileOfficeModel", "grown", "(III)Z"⟩, 55)]
theorem lw_r4 : ∀ q ∈ lw_privs_4, lw_okq q := List.forall_mem_cons.mpr ⟨lw_p48, List.forall_mem_cons.mpr ⟨lw_p49, List.forall_mem_cons.mpr ⟨lw_p50, List.forall_mem_cons.mpr ⟨lw_p51, List.forall_mem_cons.mpr ⟨lw_p52, List.forall_mem_cons.mpr ⟨lw_p53, List.forall_mem_cons.mpr ⟨lw_p54, List.forall_mem_cons.mpr ⟨lw_p55, List.forall_mem_cons.mpr ⟨lw_p56, List.forall_mem_cons.mpr ⟨lw_p57, List.forall_mem_cons.mpr ⟨lw_p58, List.forall_mem_cons.mpr ⟨lw_p59, List.forall_mem_cons.mpr ⟨lw_p60, List.forall_mem_cons.mpr ⟨lw_p61, List.forall_mem_cons.mpr ⟨lw_p62, List.forall_mem_cons.mpr ⟨lw_p63, fun _ h => absurd h List.not_mem_nil⟩⟩⟩⟩⟩⟩⟩⟩⟩⟩⟩⟩⟩⟩⟩⟩
theorem lw_p64 : lw_okq (⟨"TileOfficeModel", "block", "(IIII)I"⟩, 55) := ⟨⟨by decide +kernel, by decide +kernel⟩, List.mem_of_getElem? (i := 1121) (by decide +kernel), List.mem_of_getElem? (i := 1477) (by decide +kernel), List.mem_of_getElem? (i := 1478) (by decide +kernel)⟩
theorem lw_p65 : lw_okq (⟨"TileOfficeModel", "fit", "(III)Z"⟩, 55) := ⟨⟨by decide +kernel, by decide +kernel⟩, List.mem_of_getElem? (i := 1121) (by decide +kernel), List.mem_of_getElem? (i := 1499) (by decide +kernel), List.mem_of_getElem? (i := 1500) (by decide +kernel)⟩
theorem lw_p66 : lw_okq (⟨"TileOfficeModel", "comesAgain", "(III)Z"⟩, 55) := ⟨⟨by decide +kernel, by decide +kernel⟩, List.mem_of_getElem? (i := 1121) (by decide +kernel), List.mem_of_getElem? (i := 1507) (by decide +kernel), List.mem_of_getElem? (i := 1508) (by decide +kernel)⟩
theorem lw_p67 : lw_okq (⟨"TileOfficeModel", "isFull", "(I)Z"⟩, 55) := ⟨⟨by decide +kernel, by decide +kernel⟩, List.mem_of_getElem? (i := 1121) (by decide +kernel), List.mem_of_getElem? (i := 1515) (by decide +kernel), List.mem_of_getElem? (i := 1516) (by decide +kernel)⟩
theorem lw_p68 : lw_okq (⟨"TileOfficeModel", "isMoved", "(III)Z"⟩, 55) := ⟨⟨by decide +kernel, by decide +kernel⟩, List.mem_of_getElem? (i := 1121) (by decide +kernel), List.mem_of_getElem? (i := 1519) (by decide +kernel), List.mem_of_getElem? (i := 1520) (by decide +kernel)⟩
theorem lw_p69 : lw_okq (⟨"TileOfficeModel", "wide", "(I)I"⟩, 55) := ⟨⟨by decide +kernel, by decide +kernel⟩, List.mem_of_getElem? (i := 1121) (by decide +kernel), List.mem_of_getElem? (i := 1523) (by decide +kernel), List.mem_of_getElem? (i := 1524) (by decide +kernel)⟩
theorem lw_p70 : lw_okq (⟨"TileOfficeModel", "movedCell", "(IIII)I"⟩, 55) := ⟨⟨by decide +kernel, by decide +kernel⟩, List.mem_of_getElem? (i := 1121) (by decide +kernel), List.mem_of_getElem? (i := 1527) (by decide +kernel), List.mem_of_getElem? (i := 1528) (by decide +kernel)⟩
theorem lw_p71 : lw_okq (⟨"TileOfficeModel", "isFound", "(IIIII)Z"⟩, 55) := ⟨⟨by decide +kernel, by decide +kernel⟩, List.mem_of_getElem? (i := 1121) (by decide +kernel), List.mem_of_getElem? (i := 1539) (by decide +kernel), List.mem_of_getElem? (i := 1540) (by decide +kernel)⟩
theorem lw_p72 : lw_okq (⟨"TileOfficeModel", "isPlace", "(III)Z"⟩, 55) := ⟨⟨by decide +kernel, by decide +kernel⟩, List.mem_of_getElem? (i := 1121) (by decide +kernel), List.mem_of_getElem? (i := 1551) (by decide +kernel), List.mem_of_getElem? (i := 1552) (by decide +kernel)⟩
theorem lw_p73 : lw_okq (⟨"TileOfficeModel", "isFloor", "(I)Z"⟩, 55) := ⟨⟨by decide +kernel, by decide +kernel⟩, List.mem_of_getElem? (i := 1121) (by decide +kernel), List.mem_of_getElem? (i := 1555) (by decide +kernel), List.mem_of_getElem? (i := 1556) (by decide +kernel)⟩
theorem lw_p74 : lw_okq (⟨"TileOfficeModel", "starts", "(I)Z"⟩, 55) := ⟨⟨by decide +kernel, by decide +kernel⟩, List.mem_of_getElem? (i := 1121) (by decide +kernel), List.mem_of_getElem? (i := 1571) (by decide +kernel), List.mem_of_getElem? (i := 1572) (by decide +kernel)⟩
theorem lw_p75 : lw_okq (⟨"TileOfficeModel", "mayLie", "(II)Z"⟩, 55) := ⟨⟨by decide +kernel, by decide +kernel⟩, List.mem_of_getElem? (i := 1121) (by decide +kernel), List.mem_of_getElem? (i := 1575) (by decide +kernel), List.mem_of_getElem? (i := 1576) (by decide +kernel)⟩
theorem lw_p76 : lw_okq (⟨"TileOfficeModel", "lyingAt", "(II)I"⟩, 55) := ⟨⟨by decide +kernel, by decide +kernel⟩, List.mem_of_getElem? (i := 1121) (by decide +kernel), List.mem_of_getElem? (i := 1579) (by decide +kernel), List.mem_of_getElem? (i := 1580) (by decide +kernel)⟩
theorem lw_p77 : lw_okq (⟨"TileOfficeModel", "search", "(IZ)V"⟩, 55) := ⟨⟨by decide +kernel, by decide +kernel⟩, List.mem_of_getElem? (i := 1121) (by decide +kernel), List.mem_of_getElem? (i := 1583) (by decide +kernel), List.mem_of_getElem? (i := 1584) (by decide +kernel)⟩
theorem lw_p78 : lw_okq (⟨"TileOfficeModel", "leastCost", "()I"⟩, 55) := ⟨⟨by decide +kernel, by decide +kernel⟩, List.mem_of_getElem? (i := 1121) (by decide +kernel), List.mem_of_getElem? (i := 1587) (by decide +kernel), List.mem_of_getElem? (i := 1588) (by decide +kernel)⟩
theorem lw_p79 : lw_okq (⟨"TileOfficeModel", "nextPlace", "()I"⟩, 55) := ⟨⟨by decide +kernel, by decide +kernel⟩, List.mem_of_getElem? (i := 1121) (by decide +kernel), List.mem_of_getElem? (i := 1591) (by decide +kernel), List.mem_of_getElem? (i := 1592) (by decide +kernel)⟩
def lw_privs_5 : List (MethodName × Nat) := [(⟨"TileOfficeModel", "block", "(IIII)I"⟩, 55), (⟨"TileOfficeModel", "fit", "(III)Z"⟩, 55), (⟨"TileOfficeModel", "comesAgain", "(III)Z"⟩, 55), (⟨"TileOfficeModel", "isFull", "(I)Z"⟩, 55), (⟨"TileOfficeModel", "isMoved", "(III)Z"⟩, 55), (⟨"TileOfficeModel", "wide", "(I)I"⟩, 55), (⟨"TileOfficeModel", "movedCell", "(IIII)I"⟩, 55), (⟨"TileOfficeModel", "isFound", "(IIIII)Z"⟩, 55), (⟨"TileOfficeModel", "isPlace", "(III)Z"⟩, 55), (⟨"TileOfficeModel", "isFloor", "(I)Z"⟩, 55), (⟨"TileOfficeModel", "starts", "(I)Z"⟩, 55), (⟨"TileOfficeModel", "mayLie", "(II)Z"⟩, 55), (⟨"TileOfficeModel", "lyingAt", "(II)I"⟩, 55), (⟨"TileOfficeModel", "search", "(IZ)V"⟩, 55), (⟨"TileOfficeModel", "leastCost", "()I"⟩, 55), (⟨"TileOfficeModel", "nextPlace", "()I"⟩, 55)]
theorem lw_r5 : ∀ q ∈ lw_privs_5, lw_okq q := List.forall_mem_cons.mpr ⟨lw_p64, List.forall_mem_cons.mpr ⟨lw_p65, List.forall_mem_cons.mpr ⟨lw_p66, List.forall_mem_cons.mpr ⟨lw_p67, List.forall_mem_cons.mpr ⟨lw_p68, List.forall_mem_cons.mpr ⟨lw_p69, List.forall_mem_cons.mpr ⟨lw_p70, List.forall_mem_cons.mpr ⟨lw_p71, List.forall_mem_cons.mpr ⟨lw_p72, List.forall_mem_cons.mpr ⟨lw_p73, List.forall_mem_cons.mpr ⟨lw_p74, List.forall_mem_cons.mpr ⟨lw_p75, List.forall_mem_cons.mpr ⟨lw_p76, List.forall_mem_cons.mpr ⟨lw_p77, List.forall_mem_cons.mpr ⟨lw_p78, List.forall_mem_cons.mpr ⟨lw_p79, fun _ h => absurd h List.not_mem_nil⟩⟩⟩⟩⟩⟩⟩⟩⟩⟩⟩⟩⟩⟩⟩⟩
theorem lw_p80 : lw_okq (⟨"TileOfficeModel", "fitting", "(I)I"⟩, 55) := ⟨⟨by decide +kernel, by decide +kernel⟩, List.mem_of_getElem? (i := 1121) (by decide +kernel), List.mem_of_getElem? (i := 1595) (by decide +kernel), List.mem_of_getElem? (i := 1596) (by decide +kernel)⟩
theorem lw_p81 : lw_okq (⟨"TileOfficeModel", "nextFitting", "(II)I"⟩, 55) := ⟨⟨by decide +kernel, by decide +kernel⟩, List.mem_of_getElem? (i := 1121) (by decide +kernel), List.mem_of_getElem? (i := 1599) (by decide +kernel), List.mem_of_getElem? (i := 1600) (by decide +kernel)⟩
theorem lw_p82 : lw_okq (⟨"TileOfficeModel", "show", "()V"⟩, 55) := ⟨⟨by decide +kernel, by decide +kernel⟩, List.mem_of_getElem? (i := 1121) (by decide +kernel), List.mem_of_getElem? (i := 1603) (by decide +kernel), List.mem_of_getElem? (i := 1604) (by decide +kernel)⟩
theorem lw_p83 : lw_okq (⟨"TileOfficeModel", "takeBack", "(I)V"⟩, 55) := ⟨⟨by decide +kernel, by decide +kernel⟩, List.mem_of_getElem? (i := 1121) (by decide +kernel), List.mem_of_getElem? (i := 1607) (by decide +kernel), List.mem_of_getElem? (i := 1608) (by decide +kernel)⟩
theorem lw_p84 : lw_okq (⟨"TileOfficeModel", "lay", "(II)V"⟩, 55) := ⟨⟨by decide +kernel, by decide +kernel⟩, List.mem_of_getElem? (i := 1121) (by decide +kernel), List.mem_of_getElem? (i := 1612) (by decide +kernel), List.mem_of_getElem? (i := 1613) (by decide +kernel)⟩
def lw_privs_6 : List (MethodName × Nat) := [(⟨"TileOfficeModel", "fitting", "(I)I"⟩, 55), (⟨"TileOfficeModel", "nextFitting", "(II)I"⟩, 55), (⟨"TileOfficeModel", "show", "()V"⟩, 55), (⟨"TileOfficeModel", "takeBack", "(I)V"⟩, 55), (⟨"TileOfficeModel", "lay", "(II)V"⟩, 55)]
theorem lw_r6 : ∀ q ∈ lw_privs_6, lw_okq q := List.forall_mem_cons.mpr ⟨lw_p80, List.forall_mem_cons.mpr ⟨lw_p81, List.forall_mem_cons.mpr ⟨lw_p82, List.forall_mem_cons.mpr ⟨lw_p83, List.forall_mem_cons.mpr ⟨lw_p84, fun _ h => absurd h List.not_mem_nil⟩⟩⟩⟩⟩
def lw_privs : List (MethodName × Nat) := lw_privs_1 ++ (lw_privs_2 ++ (lw_privs_3 ++ (lw_privs_4 ++ (lw_privs_5 ++ (lw_privs_6)))))
def lw_tbl : List Cond := k2_sels lw_privs ++ tables_1
theorem lw_privs_ok : ∀ q ∈ lw_privs, lw_okq q := by
  show ∀ q ∈ lw_privs_1 ++ (lw_privs_2 ++ (lw_privs_3 ++ (lw_privs_4 ++ (lw_privs_5 ++ (lw_privs_6))))), lw_okq q
  exact List.forall_mem_append.mpr ⟨lw_r1, List.forall_mem_append.mpr ⟨lw_r2, List.forall_mem_append.mpr ⟨lw_r3, List.forall_mem_append.mpr ⟨lw_r4, List.forall_mem_append.mpr ⟨lw_r5, lw_r6⟩⟩⟩⟩⟩
/-! ===== BEGIN printed: names, fields, word lists, decode rows ===== -/
def RX0 : String := "TileOffice$Block"
def TX0 : u_T := fun k => match k with
  | 0 => ("TileOffice$Block", "rows", "I", false)
  | 1 => ("TileOffice$Block", "columns", "I", false)
  | _ => ("TileOffice$Block", "cells", "[I", true)
def tyX0 : Nat → FieldType := fun k => match k with
  | 0 => .int
  | 1 => .int
  | _ => .array .int
abbrev wsX00 : List Cond := u_ws RX0 TX0 3
theorem nmX0 : ∀ a, a < 3 → ∀ b, b < 3 → a ≠ b → (TX0 a).2.1 ≠ (TX0 b).2.1 := by decide +kernel
theorem tyX0_ok : ∀ k, k < 3 → parseFieldDescriptor (TX0 k).2.2.1 = some (tyX0 k) := by decide +kernel
abbrev cX0_init : ByteArray := prog_2_method_1_code
def yX0_init : MethodName := ⟨RX0, "<init>", "(I)V"⟩
abbrev cX0_mayBeRegion : ByteArray := prog_2_method_2_code
def yX0_mayBeRegion : MethodName := ⟨RX0, "mayBeRegion", "(II)Z"⟩
abbrev cX0_isNothing : ByteArray := prog_2_method_3_code
def yX0_isNothing : MethodName := ⟨RX0, "isNothing", "()Z"⟩
abbrev cX0_hasPlace : ByteArray := prog_2_method_4_code
def yX0_hasPlace : MethodName := ⟨RX0, "hasPlace", "(II)Z"⟩
abbrev cX0_cellAt : ByteArray := prog_2_method_5_code
def yX0_cellAt : MethodName := ⟨RX0, "cellAt", "(II)I"⟩
abbrev cX0_setCell : ByteArray := prog_2_method_6_code
def yX0_setCell : MethodName := ⟨RX0, "setCell", "(III)V"⟩
abbrev cX0_filledCells : ByteArray := prog_2_method_7_code
def yX0_filledCells : MethodName := ⟨RX0, "filledCells", "()I"⟩
abbrev cX0_takePattern : ByteArray := prog_2_method_8_code
def yX0_takePattern : MethodName := ⟨RX0, "takePattern", "(LTileOffice$Pattern;IIII)V"⟩
abbrev cX0_takeWhole : ByteArray := prog_2_method_9_code
def yX0_takeWhole : MethodName := ⟨RX0, "takeWhole", "(LTileOffice$Pattern;)V"⟩
abbrev cX0_takeMoved : ByteArray := prog_2_method_10_code
def yX0_takeMoved : MethodName := ⟨RX0, "takeMoved", "(LTileOffice$Block;ILTileOffice$Kinds;)V"⟩
def RX1 : String := "TileOffice$Board"
def TX1 : u_T := fun k => match k with
  | 0 => ("TileOffice$Board", "choices", "LTileOffice$Choices;", true)
  | 1 => ("TileOffice$Board", "openPlaces", "I", false)
  | 2 => ("TileOffice$Board", "rows", "I", false)
  | 3 => ("TileOffice$Board", "columns", "I", false)
  | 4 => ("TileOffice$Board", "codes", "[I", true)
  | 5 => ("TileOffice$Board", "open", "[Z", true)
  | 6 => ("TileOffice$Board", "wanted", "[I", true)
  | 7 => ("TileOffice$Board", "fitting", "[I", true)
  | 8 => ("TileOffice$Board", "left", "[I", true)
  | 9 => ("TileOffice$Board", "leftBits", "[J", true)
  | _ => ("TileOffice$Board", "single", "[I", true)
def tyX1 : Nat → FieldType := fun k => match k with
  | 0 => .object "TileOffice$Choices"
  | 1 => .int
  | 2 => .int
  | 3 => .int
  | 4 => .array .int
  | 5 => .array .boolean
  | 6 => .array .int
  | 7 => .array .int
  | 8 => .array .int
  | 9 => .array .long
  | _ => .array .int
abbrev wsX10 : List Cond := u_ws RX1 TX1 11
theorem nmX1 : ∀ a, a < 11 → ∀ b, b < 11 → a ≠ b → (TX1 a).2.1 ≠ (TX1 b).2.1 := by decide +kernel
theorem tyX1_ok : ∀ k, k < 11 → parseFieldDescriptor (TX1 k).2.2.1 = some (tyX1 k) := by decide +kernel
abbrev cX1_init : ByteArray := prog_3_method_1_code
def yX1_init : MethodName := ⟨RX1, "<init>", "(LTileOffice$Choices;)V"⟩
abbrev cX1_begin : ByteArray := prog_3_method_2_code
def yX1_begin : MethodName := ⟨RX1, "begin", "(LTileOffice$Floor;)V"⟩
abbrev cX1_has : ByteArray := prog_3_method_3_code
def yX1_has : MethodName := ⟨RX1, "has", "(I)Z"⟩
abbrev cX1_beside : ByteArray := prog_3_method_4_code
def yX1_beside : MethodName := ⟨RX1, "beside", "(II)I"⟩
abbrev cX1_codeAt : ByteArray := prog_3_method_5_code
def yX1_codeAt : MethodName := ⟨RX1, "codeAt", "(I)I"⟩
abbrev cX1_lookAround : ByteArray := prog_3_method_6_code
def yX1_lookAround : MethodName := ⟨RX1, "lookAround", "(I)V"⟩
abbrev cX1_givenOnesFit : ByteArray := prog_3_method_7_code
def yX1_givenOnesFit : MethodName := ⟨RX1, "givenOnesFit", "()Z"⟩
abbrev cX1_isWaiting : ByteArray := prog_3_method_8_code
def yX1_isWaiting : MethodName := ⟨RX1, "isWaiting", "(I)Z"⟩
abbrev cX1_recount : ByteArray := prog_3_method_9_code
def yX1_recount : MethodName := ⟨RX1, "recount", "(I)V"⟩
abbrev cX1_recountAll : ByteArray := prog_3_method_10_code
def yX1_recountAll : MethodName := ⟨RX1, "recountAll", "()V"⟩
abbrev cX1_scarcestPlace : ByteArray := prog_3_method_11_code
def yX1_scarcestPlace : MethodName := ⟨RX1, "scarcestPlace", "()I"⟩
abbrev cX1_fittingAfter : ByteArray := prog_3_method_12_code
def yX1_fittingAfter : MethodName := ⟨RX1, "fittingAfter", "(II)I"⟩
abbrev cX1_lay : ByteArray := prog_3_method_13_code
def yX1_lay : MethodName := ⟨RX1, "lay", "(II)V"⟩
abbrev cX1_lift : ByteArray := prog_3_method_14_code
def yX1_lift : MethodName := ⟨RX1, "lift", "(II)V"⟩
abbrev cX1_tellAround : ByteArray := prog_3_method_15_code
def yX1_tellAround : MethodName := ⟨RX1, "tellAround", "(I)V"⟩
abbrev cX1_changeLeft : ByteArray := prog_3_method_16_code
def yX1_changeLeft : MethodName := ⟨RX1, "changeLeft", "(II)Z"⟩
abbrev cX1_flipLeftBits : ByteArray := prog_3_method_17_code
def yX1_flipLeftBits : MethodName := ⟨RX1, "flipLeftBits", "(I)V"⟩
abbrev cX1_forceRounds : ByteArray := prog_3_method_18_code
def yX1_forceRounds : MethodName := ⟨RX1, "forceRounds", "()I"⟩
abbrev cX1_forceRound : ByteArray := prog_3_method_19_code
def yX1_forceRound : MethodName := ⟨RX1, "forceRound", "()I"⟩
abbrev cX1_showOn : ByteArray := prog_3_method_20_code
def yX1_showOn : MethodName := ⟨RX1, "showOn", "(LTileOffice$Floor;)V"⟩
def RX2 : String := "TileOffice$Cell"
def TX2 : u_T := fun k => match k with
  | _ => ("", "", "", false)
def tyX2 : Nat → FieldType := fun k => match k with
  | _ => .int
abbrev wsX20 : List Cond := u_ws RX2 TX2 0
theorem nmX2 : ∀ a, a < 0 → ∀ b, b < 0 → a ≠ b → (TX2 a).2.1 ≠ (TX2 b).2.1 := by decide +kernel
theorem tyX2_ok : ∀ k, k < 0 → parseFieldDescriptor (TX2 k).2.2.1 = some (tyX2 k) := by decide +kernel
abbrev cX2_tile : ByteArray := prog_4_method_2_code
def yX2_tile : MethodName := ⟨RX2, "tile", "(III)I"⟩
abbrev cX2_kindOf : ByteArray := prog_4_method_3_code
def yX2_kindOf : MethodName := ⟨RX2, "kindOf", "(I)I"⟩
abbrev cX2_moveOf : ByteArray := prog_4_method_4_code
def yX2_moveOf : MethodName := ⟨RX2, "moveOf", "(I)I"⟩
abbrev cX2_shadeOf : ByteArray := prog_4_method_5_code
def yX2_shadeOf : MethodName := ⟨RX2, "shadeOf", "(I)I"⟩
abbrev cX2_shaded : ByteArray := prog_4_method_6_code
def yX2_shaded : MethodName := ⟨RX2, "shaded", "(II)I"⟩
def RX3 : String := "TileOffice$Choices"
def TX3 : u_T := fun k => match k with
  | 0 => ("TileOffice$Choices", "kinds", "LTileOffice$Kinds;", true)
  | 1 => ("TileOffice$Choices", "size", "I", false)
  | 2 => ("TileOffice$Choices", "codes", "[I", true)
  | _ => ("TileOffice$Choices", "bits", "[J", true)
def tyX3 : Nat → FieldType := fun k => match k with
  | 0 => .object "TileOffice$Kinds"
  | 1 => .int
  | 2 => .array .int
  | _ => .array .long
abbrev wsX30 : List Cond := u_ws RX3 TX3 4
theorem nmX3 : ∀ a, a < 4 → ∀ b, b < 4 → a ≠ b → (TX3 a).2.1 ≠ (TX3 b).2.1 := by decide +kernel
theorem tyX3_ok : ∀ k, k < 4 → parseFieldDescriptor (TX3 k).2.2.1 = some (tyX3 k) := by decide +kernel
abbrev cX3_init : ByteArray := prog_5_method_1_code
def yX3_init : MethodName := ⟨RX3, "<init>", "(LTileOffice$Kinds;)V"⟩
abbrev cX3_gather : ByteArray := prog_5_method_2_code
def yX3_gather : MethodName := ⟨RX3, "gather", "(LTileOffice$Floor;)V"⟩
abbrev cX3_enter : ByteArray := prog_5_method_3_code
def yX3_enter : MethodName := ⟨RX3, "enter", "(I)V"⟩
abbrev cX3_mark : ByteArray := prog_5_method_4_code
def yX3_mark : MethodName := ⟨RX3, "mark", "(II)V"⟩
abbrev cX3_codeOf : ByteArray := prog_5_method_5_code
def yX3_codeOf : MethodName := ⟨RX3, "codeOf", "(I)I"⟩
abbrev cX3_kindOf : ByteArray := prog_5_method_6_code
def yX3_kindOf : MethodName := ⟨RX3, "kindOf", "(I)I"⟩
abbrev cX3_colourOf : ByteArray := prog_5_method_7_code
def yX3_colourOf : MethodName := ⟨RX3, "colourOf", "(II)I"⟩
abbrev cX3_all : ByteArray := prog_5_method_8_code
def yX3_all : MethodName := ⟨RX3, "all", "(I)J"⟩
abbrev cX3_fitting : ByteArray := prog_5_method_9_code
def yX3_fitting : MethodName := ⟨RX3, "fitting", "([III)J"⟩
def RX4 : String := "TileOffice$Floor"
def TX4 : u_T := fun k => match k with
  | 0 => ("TileOffice$Floor", "rows", "I", true)
  | 1 => ("TileOffice$Floor", "columns", "I", true)
  | 2 => ("TileOffice$Floor", "places", "[I", true)
  | 3 => ("TileOffice$Floor", "laid", "[I", true)
  | _ => ("TileOffice$Floor", "stocks", "[I", true)
def tyX4 : Nat → FieldType := fun k => match k with
  | 0 => .int
  | 1 => .int
  | 2 => .array .int
  | 3 => .array .int
  | _ => .array .int
abbrev wsX40 : List Cond := u_ws RX4 TX4 5
theorem nmX4 : ∀ a, a < 5 → ∀ b, b < 5 → a ≠ b → (TX4 a).2.1 ≠ (TX4 b).2.1 := by decide +kernel
theorem tyX4_ok : ∀ k, k < 5 → parseFieldDescriptor (TX4 k).2.2.1 = some (tyX4 k) := by decide +kernel
abbrev cX4_init : ByteArray := prog_6_method_1_code
def yX4_init : MethodName := ⟨RX4, "<init>", "(II)V"⟩
abbrev cX4_mayBe : ByteArray := prog_6_method_2_code
def yX4_mayBe : MethodName := ⟨RX4, "mayBe", "(II)Z"⟩
abbrev cX4_hasPlace : ByteArray := prog_6_method_3_code
def yX4_hasPlace : MethodName := ⟨RX4, "hasPlace", "(II)Z"⟩
abbrev cX4_setPlace : ByteArray := prog_6_method_4_code
def yX4_setPlace : MethodName := ⟨RX4, "setPlace", "(III)V"⟩
abbrev cX4_placeAt : ByteArray := prog_6_method_5_code
def yX4_placeAt : MethodName := ⟨RX4, "placeAt", "(I)I"⟩
abbrev cX4_shownAt : ByteArray := prog_6_method_6_code
def yX4_shownAt : MethodName := ⟨RX4, "shownAt", "(II)I"⟩
abbrev cX4_setStock : ByteArray := prog_6_method_7_code
def yX4_setStock : MethodName := ⟨RX4, "setStock", "(II)V"⟩
abbrev cX4_stockOf : ByteArray := prog_6_method_8_code
def yX4_stockOf : MethodName := ⟨RX4, "stockOf", "(I)I"⟩
abbrev cX4_showNothing : ByteArray := prog_6_method_9_code
def yX4_showNothing : MethodName := ⟨RX4, "showNothing", "()V"⟩
abbrev cX4_showAt : ByteArray := prog_6_method_10_code
def yX4_showAt : MethodName := ⟨RX4, "showAt", "(II)V"⟩
def RX5 : String := "TileOffice$History"
def TX5 : u_T := fun k => match k with
  | 0 => ("TileOffice$History", "count", "I", false)
  | 1 => ("TileOffice$History", "next", "I", false)
  | 2 => ("TileOffice$History", "changed", "[I", true)
  | 3 => ("TileOffice$History", "sizes", "[I", true)
  | _ => ("TileOffice$History", "ids", "[I", true)
def tyX5 : Nat → FieldType := fun k => match k with
  | 0 => .int
  | 1 => .int
  | 2 => .array .int
  | 3 => .array .int
  | _ => .array .int
abbrev wsX50 : List Cond := u_ws RX5 TX5 5
theorem nmX5 : ∀ a, a < 5 → ∀ b, b < 5 → a ≠ b → (TX5 a).2.1 ≠ (TX5 b).2.1 := by decide +kernel
theorem tyX5_ok : ∀ k, k < 5 → parseFieldDescriptor (TX5 k).2.2.1 = some (tyX5 k) := by decide +kernel
abbrev cX5_init : ByteArray := prog_7_method_1_code
def yX5_init : MethodName := ⟨RX5, "<init>", "()V"⟩
abbrev cX5_remember : ByteArray := prog_7_method_2_code
def yX5_remember : MethodName := ⟨RX5, "remember", "(ILTileOffice$Pattern;)V"⟩
abbrev cX5_latest : ByteArray := prog_7_method_3_code
def yX5_latest : MethodName := ⟨RX5, "latest", "()I"⟩
abbrev cX5_latestPattern : ByteArray := prog_7_method_4_code
def yX5_latestPattern : MethodName := ⟨RX5, "latestPattern", "()I"⟩
abbrev cX5_giveBack : ByteArray := prog_7_method_5_code
def yX5_giveBack : MethodName := ⟨RX5, "giveBack", "(LTileOffice$Pattern;)V"⟩
def RX6 : String := "TileOffice$Kinds"
def TX6 : u_T := fun k => match k with
  | 0 => ("TileOffice$Kinds", "count", "I", false)
  | 1 => ("TileOffice$Kinds", "edges", "[I", true)
  | 2 => ("TileOffice$Kinds", "turnsOf", "[I", true)
  | 3 => ("TileOffice$Kinds", "mirrored", "[Z", true)
  | 4 => ("TileOffice$Kinds", "costs", "[I", true)
  | _ => ("TileOffice$Kinds", "letters", "[J", true)
def tyX6 : Nat → FieldType := fun k => match k with
  | 0 => .int
  | 1 => .array .int
  | 2 => .array .int
  | 3 => .array .boolean
  | 4 => .array .int
  | _ => .array .long
abbrev wsX60 : List Cond := u_ws RX6 TX6 6
theorem nmX6 : ∀ a, a < 6 → ∀ b, b < 6 → a ≠ b → (TX6 a).2.1 ≠ (TX6 b).2.1 := by decide +kernel
theorem tyX6_ok : ∀ k, k < 6 → parseFieldDescriptor (TX6 k).2.2.1 = some (tyX6 k) := by decide +kernel
abbrev cX6_init : ByteArray := prog_8_method_1_code
def yX6_init : MethodName := ⟨RX6, "<init>", "()V"⟩
abbrev cX6_lettersOf : ByteArray := prog_8_method_2_code
def yX6_lettersOf : MethodName := ⟨RX6, "lettersOf", "(J)J"⟩
abbrev cX6_mayBe : ByteArray := prog_8_method_3_code
def yX6_mayBe : MethodName := ⟨RX6, "mayBe", "(III)Z"⟩
abbrev cX6_chained : ByteArray := prog_8_method_4_code
def yX6_chained : MethodName := ⟨RX6, "chained", "(II)I"⟩
abbrev cX6_isFull : ByteArray := prog_8_method_5_code
def yX6_isFull : MethodName := ⟨RX6, "isFull", "()Z"⟩
abbrev cX6_has : ByteArray := prog_8_method_6_code
def yX6_has : MethodName := ⟨RX6, "has", "(I)Z"⟩
abbrev cX6_add : ByteArray := prog_8_method_7_code
def yX6_add : MethodName := ⟨RX6, "add", "(IIZIJ)I"⟩
abbrev cX6_withLetters : ByteArray := prog_8_method_8_code
def yX6_withLetters : MethodName := ⟨RX6, "withLetters", "(J)I"⟩
abbrev cX6_costOf : ByteArray := prog_8_method_9_code
def yX6_costOf : MethodName := ⟨RX6, "costOf", "(I)I"⟩
abbrev cX6_lies : ByteArray := prog_8_method_10_code
def yX6_lies : MethodName := ⟨RX6, "lies", "(II)I"⟩
abbrev cX6_colour : ByteArray := prog_8_method_11_code
def yX6_colour : MethodName := ⟨RX6, "colour", "(III)I"⟩
abbrev cX6_cellOf : ByteArray := prog_8_method_12_code
def yX6_cellOf : MethodName := ⟨RX6, "cellOf", "(II)I"⟩
abbrev cX6_movedCell : ByteArray := prog_8_method_13_code
def yX6_movedCell : MethodName := ⟨RX6, "movedCell", "(II)I"⟩
abbrev cX6_meet : ByteArray := prog_8_method_14_code
def yX6_meet : MethodName := ⟨RX6, "meet", "(III)Z"⟩
def RX7 : String := "TileOffice$Pattern"
def TX7 : u_T := fun k => match k with
  | 0 => ("TileOffice$Pattern", "store", "LTileOffice$RowStore;", true)
  | 1 => ("TileOffice$Pattern", "ids", "[I", true)
  | _ => ("TileOffice$Pattern", "size", "I", false)
def tyX7 : Nat → FieldType := fun k => match k with
  | 0 => .object "TileOffice$RowStore"
  | 1 => .array .int
  | _ => .int
abbrev wsX70 : List Cond := u_ws RX7 TX7 3
theorem nmX7 : ∀ a, a < 3 → ∀ b, b < 3 → a ≠ b → (TX7 a).2.1 ≠ (TX7 b).2.1 := by decide +kernel
theorem tyX7_ok : ∀ k, k < 3 → parseFieldDescriptor (TX7 k).2.2.1 = some (tyX7 k) := by decide +kernel
abbrev cX7_init : ByteArray := prog_9_method_1_code
def yX7_init : MethodName := ⟨RX7, "<init>", "(LTileOffice$RowStore;)V"⟩
abbrev cX7_hasRow : ByteArray := prog_9_method_2_code
def yX7_hasRow : MethodName := ⟨RX7, "hasRow", "(J)Z"⟩
abbrev cX7_idAt : ByteArray := prog_9_method_3_code
def yX7_idAt : MethodName := ⟨RX7, "idAt", "(J)I"⟩
abbrev cX7_lengthAt : ByteArray := prog_9_method_4_code
def yX7_lengthAt : MethodName := ⟨RX7, "lengthAt", "(I)I"⟩
abbrev cX7_offsetAt : ByteArray := prog_9_method_5_code
def yX7_offsetAt : MethodName := ⟨RX7, "offsetAt", "(I)I"⟩
abbrev cX7_cellAt : ByteArray := prog_9_method_6_code
def yX7_cellAt : MethodName := ⟨RX7, "cellAt", "(JJ)I"⟩
abbrev cX7_insertId : ByteArray := prog_9_method_7_code
def yX7_insertId : MethodName := ⟨RX7, "insertId", "(II)V"⟩
abbrev cX7_removeId : ByteArray := prog_9_method_8_code
def yX7_removeId : MethodName := ⟨RX7, "removeId", "(I)V"⟩
abbrev cX7_renewRow : ByteArray := prog_9_method_9_code
def yX7_renewRow : MethodName := ⟨RX7, "renewRow", "(I)I"⟩
abbrev cX7_takeRows : ByteArray := prog_9_method_10_code
def yX7_takeRows : MethodName := ⟨RX7, "takeRows", "([III)V"⟩
abbrev cX7_placesOf : ByteArray := prog_9_method_11_code
def yX7_placesOf : MethodName := ⟨RX7, "placesOf", "(I)I"⟩
abbrev cX7_isFull : ByteArray := prog_9_method_12_code
def yX7_isFull : MethodName := ⟨RX7, "isFull", "()Z"⟩
abbrev cX7_mayGrow : ByteArray := prog_9_method_13_code
def yX7_mayGrow : MethodName := ⟨RX7, "mayGrow", "(II)Z"⟩
abbrev cX7_isBlock : ByteArray := prog_9_method_14_code
def yX7_isBlock : MethodName := ⟨RX7, "isBlock", "(LTileOffice$Block;)Z"⟩
abbrev cX7_bears : ByteArray := prog_9_method_15_code
def yX7_bears : MethodName := ⟨RX7, "bears", "(LTileOffice$Block;II)Z"⟩
def RX8 : String := "TileOffice$RowStore"
def TX8 : u_T := fun k => match k with
  | 0 => ("TileOffice$RowStore", "made", "I", false)
  | 1 => ("TileOffice$RowStore", "offsets", "[I", true)
  | _ => ("TileOffice$RowStore", "cells", "[[I", true)
def tyX8 : Nat → FieldType := fun k => match k with
  | 0 => .int
  | 1 => .array .int
  | _ => .array (.array .int)
abbrev wsX80 : List Cond := u_ws RX8 TX8 3
theorem nmX8 : ∀ a, a < 3 → ∀ b, b < 3 → a ≠ b → (TX8 a).2.1 ≠ (TX8 b).2.1 := by decide +kernel
theorem tyX8_ok : ∀ k, k < 3 → parseFieldDescriptor (TX8 k).2.2.1 = some (tyX8 k) := by decide +kernel
abbrev cX8_init : ByteArray := prog_10_method_1_code
def yX8_init : MethodName := ⟨RX8, "<init>", "()V"⟩
abbrev cX8_mayBe : ByteArray := prog_10_method_2_code
def yX8_mayBe : MethodName := ⟨RX8, "mayBe", "(II)Z"⟩
abbrev cX8_left : ByteArray := prog_10_method_3_code
def yX8_left : MethodName := ⟨RX8, "left", "()I"⟩
abbrev cX8_make : ByteArray := prog_10_method_4_code
def yX8_make : MethodName := ⟨RX8, "make", "(II)I"⟩
abbrev cX8_makeLike : ByteArray := prog_10_method_5_code
def yX8_makeLike : MethodName := ⟨RX8, "makeLike", "(I)I"⟩
abbrev cX8_enter : ByteArray := prog_10_method_6_code
def yX8_enter : MethodName := ⟨RX8, "enter", "([II)I"⟩
abbrev cX8_cellsOf : ByteArray := prog_10_method_7_code
def yX8_cellsOf : MethodName := ⟨RX8, "cellsOf", "(I)[I"⟩
abbrev cX8_offsetOf : ByteArray := prog_10_method_8_code
def yX8_offsetOf : MethodName := ⟨RX8, "offsetOf", "(I)I"⟩
abbrev cX8_lengthOf : ByteArray := prog_10_method_9_code
def yX8_lengthOf : MethodName := ⟨RX8, "lengthOf", "(I)I"⟩
abbrev cX8_cellAt : ByteArray := prog_10_method_10_code
def yX8_cellAt : MethodName := ⟨RX8, "cellAt", "(IJ)I"⟩
abbrev cX8_setCell : ByteArray := prog_10_method_11_code
def yX8_setCell : MethodName := ⟨RX8, "setCell", "(III)V"⟩
abbrev cX8_bears : ByteArray := prog_10_method_12_code
def yX8_bears : MethodName := ⟨RX8, "bears", "(IILTileOffice$Block;I)Z"⟩
def RX9 : String := "TileOffice$Rule"
def TX9 : u_T := fun k => match k with
  | 0 => ("TileOffice$Rule", "rows", "I", true)
  | 1 => ("TileOffice$Rule", "columns", "I", true)
  | 2 => ("TileOffice$Rule", "cells", "[I", true)
  | 3 => ("TileOffice$Rule", "even", "[J", true)
  | _ => ("TileOffice$Rule", "odd", "[J", true)
def tyX9 : Nat → FieldType := fun k => match k with
  | 0 => .int
  | 1 => .int
  | 2 => .array .int
  | 3 => .array .long
  | _ => .array .long
abbrev wsX90 : List Cond := u_ws RX9 TX9 5
theorem nmX9 : ∀ a, a < 5 → ∀ b, b < 5 → a ≠ b → (TX9 a).2.1 ≠ (TX9 b).2.1 := by decide +kernel
theorem tyX9_ok : ∀ k, k < 5 → parseFieldDescriptor (TX9 k).2.2.1 = some (tyX9 k) := by decide +kernel
abbrev cX9_init : ByteArray := prog_11_method_1_code
def yX9_init : MethodName := ⟨RX9, "<init>", "(II)V"⟩
abbrev cX9_mayBe : ByteArray := prog_11_method_2_code
def yX9_mayBe : MethodName := ⟨RX9, "mayBe", "(II)Z"⟩
abbrev cX9_hasPlace : ByteArray := prog_11_method_3_code
def yX9_hasPlace : MethodName := ⟨RX9, "hasPlace", "(II)Z"⟩
abbrev cX9_hasCell : ByteArray := prog_11_method_4_code
def yX9_hasCell : MethodName := ⟨RX9, "hasCell", "(III)Z"⟩
abbrev cX9_setCell : ByteArray := prog_11_method_5_code
def yX9_setCell : MethodName := ⟨RX9, "setCell", "(IIII)V"⟩
abbrev cX9_cellAt : ByteArray := prog_11_method_6_code
def yX9_cellAt : MethodName := ⟨RX9, "cellAt", "(III)I"⟩
abbrev cX9_childOf : ByteArray := prog_11_method_7_code
def yX9_childOf : MethodName := ⟨RX9, "childOf", "(IIILTileOffice$Kinds;)I"⟩
abbrev cX9_rowBefore : ByteArray := prog_11_method_8_code
def yX9_rowBefore : MethodName := ⟨RX9, "rowBefore", "(III)I"⟩
abbrev cX9_columnBefore : ByteArray := prog_11_method_9_code
def yX9_columnBefore : MethodName := ⟨RX9, "columnBefore", "(III)I"⟩
abbrev cX9_foretell : ByteArray := prog_11_method_10_code
def yX9_foretell : MethodName := ⟨RX9, "foretell", "(III)J"⟩
abbrev cX9_foretellStep : ByteArray := prog_11_method_11_code
def yX9_foretellStep : MethodName := ⟨RX9, "foretellStep", "([J[J)V"⟩
abbrev cX9_sum : ByteArray := prog_11_method_12_code
def yX9_sum : MethodName := ⟨RX9, "sum", "(JJ)J"⟩
def RX10 : String := "TileOffice$Search"
def TX10 : u_T := fun k => match k with
  | 0 => ("TileOffice$Search", "board", "LTileOffice$Board;", true)
  | 1 => ("TileOffice$Search", "kinds", "LTileOffice$Kinds;", true)
  | 2 => ("TileOffice$Search", "placeAt", "[I", true)
  | 3 => ("TileOffice$Search", "choiceAt", "[I", true)
  | 4 => ("TileOffice$Search", "depth", "I", false)
  | 5 => ("TileOffice$Search", "stepsLeft", "I", false)
  | 6 => ("TileOffice$Search", "leastCost", "Z", false)
  | 7 => ("TileOffice$Search", "cost", "I", false)
  | 8 => ("TileOffice$Search", "leastOfKinds", "I", false)
  | 9 => ("TileOffice$Search", "stepsOfLife", "I", false)
  | 10 => ("TileOffice$Search", "found", "I", false)
  | 11 => ("TileOffice$Search", "best", "I", false)
  | _ => ("TileOffice$Search", "known", "Z", false)
def tyX10 : Nat → FieldType := fun k => match k with
  | 0 => .object "TileOffice$Board"
  | 1 => .object "TileOffice$Kinds"
  | 2 => .array .int
  | 3 => .array .int
  | 4 => .int
  | 5 => .int
  | 6 => .boolean
  | 7 => .int
  | 8 => .int
  | 9 => .int
  | 10 => .int
  | 11 => .int
  | _ => .boolean
abbrev wsX100 : List Cond := u_ws RX10 TX10 13
theorem nmX10 : ∀ a, a < 13 → ∀ b, b < 13 → a ≠ b → (TX10 a).2.1 ≠ (TX10 b).2.1 := by decide +kernel
theorem tyX10_ok : ∀ k, k < 13 → parseFieldDescriptor (TX10 k).2.2.1 = some (tyX10 k) := by decide +kernel
abbrev cX10_init : ByteArray := prog_12_method_1_code
def yX10_init : MethodName := ⟨RX10, "<init>", "(LTileOffice$Board;LTileOffice$Kinds;)V"⟩
abbrev cX10_begin : ByteArray := prog_12_method_2_code
def yX10_begin : MethodName := ⟨RX10, "begin", "(LTileOffice$Floor;Z)V"⟩
abbrev cX10_leastCostOn : ByteArray := prog_12_method_3_code
def yX10_leastCostOn : MethodName := ⟨RX10, "leastCostOn", "(LTileOffice$Floor;)I"⟩
abbrev cX10_explore : ByteArray := prog_12_method_4_code
def yX10_explore : MethodName := ⟨RX10, "explore", "(LTileOffice$Floor;I)V"⟩
abbrev cX10_openDepth : ByteArray := prog_12_method_5_code
def yX10_openDepth : MethodName := ⟨RX10, "openDepth", "(I)V"⟩
abbrev cX10_openAgain : ByteArray := prog_12_method_6_code
def yX10_openAgain : MethodName := ⟨RX10, "openAgain", "(I)V"⟩
abbrev cX10_nextTry : ByteArray := prog_12_method_7_code
def yX10_nextTry : MethodName := ⟨RX10, "nextTry", "()I"⟩
abbrev cX10_isPassedOver : ByteArray := prog_12_method_8_code
def yX10_isPassedOver : MethodName := ⟨RX10, "isPassedOver", "(I)Z"⟩
abbrev cX10_noteTry : ByteArray := prog_12_method_9_code
def yX10_noteTry : MethodName := ⟨RX10, "noteTry", "(I)V"⟩
abbrev cX10_costOf : ByteArray := prog_12_method_10_code
def yX10_costOf : MethodName := ⟨RX10, "costOf", "(I)I"⟩
abbrev cX10_noteFill : ByteArray := prog_12_method_11_code
def yX10_noteFill : MethodName := ⟨RX10, "noteFill", "(LTileOffice$Floor;)V"⟩
def RX11 : String := "TileOffice"
def TX11 : u_T := fun k => match k with
  | 0 => ("TileOffice", "kinds", "LTileOffice$Kinds;", true)
  | 1 => ("TileOffice", "store", "LTileOffice$RowStore;", true)
  | 2 => ("TileOffice", "patterns", "[LTileOffice$Pattern;", true)
  | 3 => ("TileOffice", "patternCount", "I", false)
  | 4 => ("TileOffice", "history", "LTileOffice$History;", true)
  | 5 => ("TileOffice", "region", "LTileOffice$Block;", true)
  | 6 => ("TileOffice", "original", "LTileOffice$Block;", true)
  | 7 => ("TileOffice", "moved", "LTileOffice$Block;", true)
  | 8 => ("TileOffice", "foundMoves", "[I", true)
  | 9 => ("TileOffice", "rules", "[LTileOffice$Rule;", true)
  | 10 => ("TileOffice", "ruleCount", "I", false)
  | 11 => ("TileOffice", "floors", "[LTileOffice$Floor;", true)
  | 12 => ("TileOffice", "floorCount", "I", false)
  | 13 => ("TileOffice", "board", "LTileOffice$Board;", true)
  | _ => ("TileOffice", "search", "LTileOffice$Search;", true)
def tyX11 : Nat → FieldType := fun k => match k with
  | 0 => .object "TileOffice$Kinds"
  | 1 => .object "TileOffice$RowStore"
  | 2 => .array (.object "TileOffice$Pattern")
  | 3 => .int
  | 4 => .object "TileOffice$History"
  | 5 => .object "TileOffice$Block"
  | 6 => .object "TileOffice$Block"
  | 7 => .object "TileOffice$Block"
  | 8 => .array .int
  | 9 => .array (.object "TileOffice$Rule")
  | 10 => .int
  | 11 => .array (.object "TileOffice$Floor")
  | 12 => .int
  | 13 => .object "TileOffice$Board"
  | _ => .object "TileOffice$Search"
abbrev wsX110 : List Cond := u_ws RX11 TX11 15
theorem nmX11 : ∀ a, a < 15 → ∀ b, b < 15 → a ≠ b → (TX11 a).2.1 ≠ (TX11 b).2.1 := by decide +kernel
theorem tyX11_ok : ∀ k, k < 15 → parseFieldDescriptor (TX11 k).2.2.1 = some (tyX11 k) := by decide +kernel
abbrev cX11_init : ByteArray := prog_1_method_1_code
def yX11_init : MethodName := ⟨RX11, "<init>", "()V"⟩
abbrev cX11_kind : ByteArray := prog_1_method_2_code
def yX11_kind : MethodName := ⟨RX11, "kind", "(IIZIJ)I"⟩
abbrev cX11_named : ByteArray := prog_1_method_3_code
def yX11_named : MethodName := ⟨RX11, "named", "(J)I"⟩
abbrev cX11_edge : ByteArray := prog_1_method_4_code
def yX11_edge : MethodName := ⟨RX11, "edge", "(III)I"⟩
abbrev cX11_then : ByteArray := prog_1_method_5_code
def yX11_then : MethodName := ⟨RX11, "then", "(II)I"⟩
abbrev cX11_isMove : ByteArray := prog_1_method_6_code
def yX11_isMove : MethodName := ⟨RX11, "isMove", "(I)Z"⟩
abbrev cX11_isKindInMove : ByteArray := prog_1_method_7_code
def yX11_isKindInMove : MethodName := ⟨RX11, "isKindInMove", "(II)Z"⟩
abbrev cX11_pattern : ByteArray := prog_1_method_8_code
def yX11_pattern : MethodName := ⟨RX11, "pattern", "()I"⟩
abbrev cX11_keep : ByteArray := prog_1_method_9_code
def yX11_keep : MethodName := ⟨RX11, "keep", "(LTileOffice$Pattern;)I"⟩
abbrev cX11_patternOf : ByteArray := prog_1_method_10_code
def yX11_patternOf : MethodName := ⟨RX11, "patternOf", "(I)LTileOffice$Pattern;"⟩
abbrev cX11_insert : ByteArray := prog_1_method_11_code
def yX11_insert : MethodName := ⟨RX11, "insert", "(IIII)Z"⟩
abbrev cX11_remove : ByteArray := prog_1_method_12_code
def yX11_remove : MethodName := ⟨RX11, "remove", "(II)Z"⟩
abbrev cX11_move : ByteArray := prog_1_method_13_code
def yX11_move : MethodName := ⟨RX11, "move", "(III)Z"⟩
abbrev cX11_put : ByteArray := prog_1_method_14_code
def yX11_put : MethodName := ⟨RX11, "put", "(IIIII)Z"⟩
abbrev cX11_shade : ByteArray := prog_1_method_15_code
def yX11_shade : MethodName := ⟨RX11, "shade", "(IIII)Z"⟩
abbrev cX11_setCell : ByteArray := prog_1_method_16_code
def yX11_setCell : MethodName := ⟨RX11, "setCell", "(IIII)Z"⟩
abbrev cX11_at : ByteArray := prog_1_method_17_code
def yX11_at : MethodName := ⟨RX11, "at", "(IIII)I"⟩
abbrev cX11_row : ByteArray := prog_1_method_18_code
def yX11_row : MethodName := ⟨RX11, "row", "(III)I"⟩
abbrev cX11_placesOf : ByteArray := prog_1_method_19_code
def yX11_placesOf : MethodName := ⟨RX11, "placesOf", "(I)I"⟩
abbrev cX11_shares : ByteArray := prog_1_method_20_code
def yX11_shares : MethodName := ⟨RX11, "shares", "(IIII)Z"⟩
abbrev cX11_copy : ByteArray := prog_1_method_21_code
def yX11_copy : MethodName := ⟨RX11, "copy", "(I)I"⟩
abbrev cX11_region : ByteArray := prog_1_method_22_code
def yX11_region : MethodName := ⟨RX11, "region", "(IIIII)I"⟩
abbrev cX11_turn : ByteArray := prog_1_method_23_code
def yX11_turn : MethodName := ⟨RX11, "turn", "(I)Z"⟩
abbrev cX11_paste : ByteArray := prog_1_method_24_code
def yX11_paste : MethodName := ⟨RX11, "paste", "(III)I"⟩
abbrev cX11_cellsThatCome : ByteArray := prog_1_method_25_code
def yX11_cellsThatCome : MethodName := ⟨RX11, "cellsThatCome", "(LTileOffice$Pattern;III)I"⟩
abbrev cX11_comes : ByteArray := prog_1_method_26_code
def yX11_comes : MethodName := ⟨RX11, "comes", "(LTileOffice$Pattern;IIII)Z"⟩
abbrev cX11_pasteRows : ByteArray := prog_1_method_27_code
def yX11_pasteRows : MethodName := ⟨RX11, "pasteRows", "(LTileOffice$Pattern;II)V"⟩
abbrev cX11_rule : ByteArray := prog_1_method_28_code
def yX11_rule : MethodName := ⟨RX11, "rule", "(II)I"⟩
abbrev cX11_ruleOf : ByteArray := prog_1_method_29_code
def yX11_ruleOf : MethodName := ⟨RX11, "ruleOf", "(I)LTileOffice$Rule;"⟩
abbrev cX11_becomes : ByteArray := prog_1_method_30_code
def yX11_becomes : MethodName := ⟨RX11, "becomes", "(IIIIII)Z"⟩
abbrev cX11_grow : ByteArray := prog_1_method_31_code
def yX11_grow : MethodName := ⟨RX11, "grow", "(III)I"⟩
abbrev cX11_power : ByteArray := prog_1_method_32_code
def yX11_power : MethodName := ⟨RX11, "power", "(II)I"⟩
abbrev cX11_growsStraight : ByteArray := prog_1_method_33_code
def yX11_growsStraight : MethodName := ⟨RX11, "growsStraight", "(LTileOffice$Pattern;LTileOffice$Rule;I)Z"⟩
abbrev cX11_grownRow : ByteArray := prog_1_method_34_code
def yX11_grownRow : MethodName := ⟨RX11, "grownRow", "(LTileOffice$Pattern;LTileOffice$Rule;II)I"⟩
abbrev cX11_grownCell : ByteArray := prog_1_method_35_code
def yX11_grownCell : MethodName := ⟨RX11, "grownCell", "(LTileOffice$Pattern;LTileOffice$Rule;III)I"⟩
abbrev cX11_foretold : ByteArray := prog_1_method_36_code
def yX11_foretold : MethodName := ⟨RX11, "foretold", "(IIII)J"⟩
abbrev cX11_count : ByteArray := prog_1_method_37_code
def yX11_count : MethodName := ⟨RX11, "count", "(II)I"⟩
abbrev cX11_fits : ByteArray := prog_1_method_38_code
def yX11_fits : MethodName := ⟨RX11, "fits", "(I)I"⟩
abbrev cX11_period : ByteArray := prog_1_method_39_code
def yX11_period : MethodName := ⟨RX11, "period", "(II)I"⟩
abbrev cX11_repeats : ByteArray := prog_1_method_40_code
def yX11_repeats : MethodName := ⟨RX11, "repeats", "(LTileOffice$Pattern;II)Z"⟩
abbrev cX11_kept : ByteArray := prog_1_method_41_code
def yX11_kept : MethodName := ⟨RX11, "kept", "(I)I"⟩
abbrev cX11_congruent : ByteArray := prog_1_method_42_code
def yX11_congruent : MethodName := ⟨RX11, "congruent", "(II)I"⟩
abbrev cX11_find : ByteArray := prog_1_method_43_code
def yX11_find : MethodName := ⟨RX11, "find", "(III)I"⟩
abbrev cX11_markFound : ByteArray := prog_1_method_44_code
def yX11_markFound : MethodName := ⟨RX11, "markFound", "(LTileOffice$Pattern;I)V"⟩
abbrev cX11_foundAt : ByteArray := prog_1_method_45_code
def yX11_foundAt : MethodName := ⟨RX11, "foundAt", "(I)I"⟩
abbrev cX11_bitAt : ByteArray := prog_1_method_46_code
def yX11_bitAt : MethodName := ⟨RX11, "bitAt", "(II)I"⟩
abbrev cX11_floor : ByteArray := prog_1_method_47_code
def yX11_floor : MethodName := ⟨RX11, "floor", "(II)I"⟩
abbrev cX11_floorOf : ByteArray := prog_1_method_48_code
def yX11_floorOf : MethodName := ⟨RX11, "floorOf", "(I)LTileOffice$Floor;"⟩
abbrev cX11_place : ByteArray := prog_1_method_49_code
def yX11_place : MethodName := ⟨RX11, "place", "(IIIII)Z"⟩
abbrev cX11_stock : ByteArray := prog_1_method_50_code
def yX11_stock : MethodName := ⟨RX11, "stock", "(III)Z"⟩
abbrev cX11_fill : ByteArray := prog_1_method_51_code
def yX11_fill : MethodName := ⟨RX11, "fill", "(I)I"⟩
abbrev cX11_fills : ByteArray := prog_1_method_52_code
def yX11_fills : MethodName := ⟨RX11, "fills", "(II)I"⟩
abbrev cX11_cheapest : ByteArray := prog_1_method_53_code
def yX11_cheapest : MethodName := ⟨RX11, "cheapest", "(I)I"⟩
abbrev cX11_forced : ByteArray := prog_1_method_54_code
def yX11_forced : MethodName := ⟨RX11, "forced", "(I)I"⟩
abbrev cX11_shown : ByteArray := prog_1_method_55_code
def yX11_shown : MethodName := ⟨RX11, "shown", "(III)I"⟩
abbrev cX11_undo : ByteArray := prog_1_method_56_code
def yX11_undo : MethodName := ⟨RX11, "undo", "()I"⟩
abbrev cX11_about : ByteArray := prog_1_method_57_code
def yX11_about : MethodName := ⟨RX11, "about", "(I)I"⟩
def RX12 : String := "TileOfficeModel"
def TX12 : u_T := fun k => match k with
  | 0 => ("TileOfficeModel", "kEdges", "[I", true)
  | 1 => ("TileOfficeModel", "kTurns", "[I", true)
  | 2 => ("TileOfficeModel", "kCost", "[I", true)
  | 3 => ("TileOfficeModel", "kMirrors", "[Z", true)
  | 4 => ("TileOfficeModel", "kName", "[J", true)
  | 5 => ("TileOfficeModel", "kinds", "I", false)
  | 6 => ("TileOfficeModel", "rLength", "[I", true)
  | 7 => ("TileOfficeModel", "rOffset", "[I", true)
  | 8 => ("TileOfficeModel", "rCells", "[I", true)
  | 9 => ("TileOfficeModel", "made", "I", false)
  | 10 => ("TileOfficeModel", "pRows", "[I", true)
  | 11 => ("TileOfficeModel", "pMany", "[I", true)
  | 12 => ("TileOfficeModel", "patterns", "I", false)
  | 13 => ("TileOfficeModel", "uPattern", "[I", true)
  | 14 => ("TileOfficeModel", "uMany", "[I", true)
  | 15 => ("TileOfficeModel", "uRows", "[I", true)
  | 16 => ("TileOfficeModel", "undos", "I", false)
  | 17 => ("TileOfficeModel", "undoAt", "I", false)
  | 18 => ("TileOfficeModel", "fromI", "I", false)
  | 19 => ("TileOfficeModel", "fromJ", "I", false)
  | 20 => ("TileOfficeModel", "gCells", "[I", true)
  | 21 => ("TileOfficeModel", "gOther", "[I", true)
  | 22 => ("TileOfficeModel", "gIs", "[Z", true)
  | 23 => ("TileOfficeModel", "gOtherIs", "[Z", true)
  | 24 => ("TileOfficeModel", "gRows", "I", false)
  | 25 => ("TileOfficeModel", "gCols", "I", false)
  | 26 => ("TileOfficeModel", "uSizeR", "[I", true)
  | 27 => ("TileOfficeModel", "uSizeC", "[I", true)
  | 28 => ("TileOfficeModel", "uBlock", "[I", true)
  | 29 => ("TileOfficeModel", "rules", "I", false)
  | 30 => ("TileOfficeModel", "wCells", "[I", true)
  | 31 => ("TileOfficeModel", "wLength", "[I", true)
  | 32 => ("TileOfficeModel", "wOffset", "[I", true)
  | 33 => ("TileOfficeModel", "now", "[J", true)
  | 34 => ("TileOfficeModel", "then", "[J", true)
  | 35 => ("TileOfficeModel", "fRows", "[I", true)
  | 36 => ("TileOfficeModel", "fCols", "[I", true)
  | 37 => ("TileOfficeModel", "fTold", "[I", true)
  | 38 => ("TileOfficeModel", "fLies", "[I", true)
  | 39 => ("TileOfficeModel", "fStock", "[I", true)
  | 40 => ("TileOfficeModel", "floors", "I", false)
  | 41 => ("TileOfficeModel", "life", "I", false)
  | 42 => ("TileOfficeModel", "its", "I", false)
  | 43 => ("TileOfficeModel", "opens", "I", false)
  | 44 => ("TileOfficeModel", "lying", "[I", true)
  | 45 => ("TileOfficeModel", "left", "[I", true)
  | 46 => ("TileOfficeModel", "open", "[I", true)
  | 47 => ("TileOfficeModel", "dPlace", "[I", true)
  | 48 => ("TileOfficeModel", "dTried", "[I", true)
  | 49 => ("TileOfficeModel", "depth", "I", false)
  | 50 => ("TileOfficeModel", "steps", "I", false)
  | 51 => ("TileOfficeModel", "found", "I", false)
  | 52 => ("TileOfficeModel", "cost", "I", false)
  | 53 => ("TileOfficeModel", "best", "I", false)
  | _ => ("TileOfficeModel", "isOut", "Z", false)
def tyX12 : Nat → FieldType := fun k => match k with
  | 0 => .array .int
  | 1 => .array .int
  | 2 => .array .int
  | 3 => .array .boolean
  | 4 => .array .long
  | 5 => .int
  | 6 => .array .int
  | 7 => .array .int
  | 8 => .array .int
  | 9 => .int
  | 10 => .array .int
  | 11 => .array .int
  | 12 => .int
  | 13 => .array .int
  | 14 => .array .int
  | 15 => .array .int
  | 16 => .int
  | 17 => .int
  | 18 => .int
  | 19 => .int
  | 20 => .array .int
  | 21 => .array .int
  | 22 => .array .boolean
  | 23 => .array .boolean
  | 24 => .int
  | 25 => .int
  | 26 => .array .int
  | 27 => .array .int
  | 28 => .array .int
  | 29 => .int
  | 30 => .array .int
  | 31 => .array .int
  | 32 => .array .int
  | 33 => .array .long
  | 34 => .array .long
  | 35 => .array .int
  | 36 => .array .int
  | 37 => .array .int
  | 38 => .array .int
  | 39 => .array .int
  | 40 => .int
  | 41 => .int
  | 42 => .int
  | 43 => .int
  | 44 => .array .int
  | 45 => .array .int
  | 46 => .array .int
  | 47 => .array .int
  | 48 => .array .int
  | 49 => .int
  | 50 => .int
  | 51 => .int
  | 52 => .int
  | 53 => .int
  | _ => .boolean
abbrev wsX120 : List Cond := u_ws RX12 TX12 55
theorem nmX12 : ∀ a, a < 55 → ∀ b, b < 55 → a ≠ b → (TX12 a).2.1 ≠ (TX12 b).2.1 := by decide +kernel
theorem tyX12_ok : ∀ k, k < 55 → parseFieldDescriptor (TX12 k).2.2.1 = some (tyX12 k) := by decide +kernel
abbrev cX12_init : ByteArray := prog_14_method_1_code
def yX12_init : MethodName := ⟨RX12, "<init>", "()V"⟩
abbrev cX12_plain : ByteArray := prog_14_method_2_code
def yX12_plain : MethodName := ⟨RX12, "plain", "(J)J"⟩
abbrev cX12_kind : ByteArray := prog_14_method_3_code
def yX12_kind : MethodName := ⟨RX12, "kind", "(IIZIJ)I"⟩
abbrev cX12_named : ByteArray := prog_14_method_4_code
def yX12_named : MethodName := ⟨RX12, "named", "(J)I"⟩
abbrev cX12_isMove : ByteArray := prog_14_method_5_code
def yX12_isMove : MethodName := ⟨RX12, "isMove", "(I)Z"⟩
abbrev cX12_isKind : ByteArray := prog_14_method_6_code
def yX12_isKind : MethodName := ⟨RX12, "isKind", "(I)Z"⟩
abbrev cX12_lies : ByteArray := prog_14_method_7_code
def yX12_lies : MethodName := ⟨RX12, "lies", "(II)I"⟩
abbrev cX12_thenMove : ByteArray := prog_14_method_8_code
def yX12_thenMove : MethodName := ⟨RX12, "thenMove", "(II)I"⟩
abbrev cX12_then : ByteArray := prog_14_method_9_code
def yX12_then : MethodName := ⟨RX12, "then", "(II)I"⟩
abbrev cX12_colour : ByteArray := prog_14_method_10_code
def yX12_colour : MethodName := ⟨RX12, "colour", "(III)I"⟩
abbrev cX12_edge : ByteArray := prog_14_method_11_code
def yX12_edge : MethodName := ⟨RX12, "edge", "(III)I"⟩
abbrev cX12_cell : ByteArray := prog_14_method_12_code
def yX12_cell : MethodName := ⟨RX12, "cell", "(III)I"⟩
abbrev cX12_kindOf : ByteArray := prog_14_method_13_code
def yX12_kindOf : MethodName := ⟨RX12, "kindOf", "(I)I"⟩
abbrev cX12_moveOf : ByteArray := prog_14_method_14_code
def yX12_moveOf : MethodName := ⟨RX12, "moveOf", "(I)I"⟩
abbrev cX12_shadeOf : ByteArray := prog_14_method_15_code
def yX12_shadeOf : MethodName := ⟨RX12, "shadeOf", "(I)I"⟩
abbrev cX12_moved : ByteArray := prog_14_method_16_code
def yX12_moved : MethodName := ⟨RX12, "moved", "(II)I"⟩
abbrev cX12_fit : ByteArray := prog_14_method_17_code
def yX12_fit : MethodName := ⟨RX12, "fit", "(III)Z"⟩
abbrev cX12_isPattern : ByteArray := prog_14_method_18_code
def yX12_isPattern : MethodName := ⟨RX12, "isPattern", "(I)Z"⟩
abbrev cX12_rowOf : ByteArray := prog_14_method_19_code
def yX12_rowOf : MethodName := ⟨RX12, "rowOf", "(II)I"⟩
abbrev cX12_newRow : ByteArray := prog_14_method_20_code
def yX12_newRow : MethodName := ⟨RX12, "newRow", "(II)I"⟩
abbrev cX12_has : ByteArray := prog_14_method_21_code
def yX12_has : MethodName := ⟨RX12, "has", "(IJJ)Z"⟩
abbrev cX12_placeOf : ByteArray := prog_14_method_22_code
def yX12_placeOf : MethodName := ⟨RX12, "placeOf", "(III)I"⟩
abbrev cX12_cellAt : ByteArray := prog_14_method_23_code
def yX12_cellAt : MethodName := ⟨RX12, "cellAt", "(III)I"⟩
abbrev cX12_keep : ByteArray := prog_14_method_24_code
def yX12_keep : MethodName := ⟨RX12, "keep", "(I)V"⟩
abbrev cX12_undo : ByteArray := prog_14_method_25_code
def yX12_undo : MethodName := ⟨RX12, "undo", "()I"⟩
abbrev cX12_pattern : ByteArray := prog_14_method_26_code
def yX12_pattern : MethodName := ⟨RX12, "pattern", "()I"⟩
abbrev cX12_insert : ByteArray := prog_14_method_27_code
def yX12_insert : MethodName := ⟨RX12, "insert", "(IIII)Z"⟩
abbrev cX12_takeRow : ByteArray := prog_14_method_28_code
def yX12_takeRow : MethodName := ⟨RX12, "takeRow", "(II)V"⟩
abbrev cX12_remove : ByteArray := prog_14_method_29_code
def yX12_remove : MethodName := ⟨RX12, "remove", "(II)Z"⟩
abbrev cX12_move : ByteArray := prog_14_method_30_code
def yX12_move : MethodName := ⟨RX12, "move", "(III)Z"⟩
abbrev cX12_own : ByteArray := prog_14_method_31_code
def yX12_own : MethodName := ⟨RX12, "own", "(II)V"⟩
abbrev cX12_sets : ByteArray := prog_14_method_32_code
def yX12_sets : MethodName := ⟨RX12, "sets", "(IIII)Z"⟩
abbrev cX12_put : ByteArray := prog_14_method_33_code
def yX12_put : MethodName := ⟨RX12, "put", "(IIIII)Z"⟩
abbrev cX12_shade : ByteArray := prog_14_method_34_code
def yX12_shade : MethodName := ⟨RX12, "shade", "(IIII)Z"⟩
abbrev cX12_at : ByteArray := prog_14_method_35_code
def yX12_at : MethodName := ⟨RX12, "at", "(IIII)I"⟩
abbrev cX12_row : ByteArray := prog_14_method_36_code
def yX12_row : MethodName := ⟨RX12, "row", "(III)I"⟩
abbrev cX12_shares : ByteArray := prog_14_method_37_code
def yX12_shares : MethodName := ⟨RX12, "shares", "(IIII)Z"⟩
abbrev cX12_copy : ByteArray := prog_14_method_38_code
def yX12_copy : MethodName := ⟨RX12, "copy", "(I)I"⟩
abbrev cX12_comesFrom : ByteArray := prog_14_method_39_code
def yX12_comesFrom : MethodName := ⟨RX12, "comesFrom", "(IIIII)V"⟩
abbrev cX12_region : ByteArray := prog_14_method_40_code
def yX12_region : MethodName := ⟨RX12, "region", "(IIIII)I"⟩
abbrev cX12_turn : ByteArray := prog_14_method_41_code
def yX12_turn : MethodName := ⟨RX12, "turn", "(I)Z"⟩
abbrev cX12_paste : ByteArray := prog_14_method_42_code
def yX12_paste : MethodName := ⟨RX12, "paste", "(III)I"⟩
abbrev cX12_comes : ByteArray := prog_14_method_43_code
def yX12_comes : MethodName := ⟨RX12, "comes", "(IIII)I"⟩
abbrev cX12_isRule : ByteArray := prog_14_method_44_code
def yX12_isRule : MethodName := ⟨RX12, "isRule", "(I)Z"⟩
abbrev cX12_rule : ByteArray := prog_14_method_45_code
def yX12_rule : MethodName := ⟨RX12, "rule", "(II)I"⟩
abbrev cX12_becomes : ByteArray := prog_14_method_46_code
def yX12_becomes : MethodName := ⟨RX12, "becomes", "(IIIIII)Z"⟩
abbrev cX12_grow : ByteArray := prog_14_method_47_code
def yX12_grow : MethodName := ⟨RX12, "grow", "(III)I"⟩
abbrev cX12_grown : ByteArray := prog_14_method_48_code
def yX12_grown : MethodName := ⟨RX12, "grown", "(III)Z"⟩
abbrev cX12_block : ByteArray := prog_14_method_49_code
def yX12_block : MethodName := ⟨RX12, "block", "(IIII)I"⟩
abbrev cX12_sum : ByteArray := prog_14_method_50_code
def yX12_sum : MethodName := ⟨RX12, "sum", "(JJ)J"⟩
abbrev cX12_foretold : ByteArray := prog_14_method_51_code
def yX12_foretold : MethodName := ⟨RX12, "foretold", "(IIII)J"⟩
abbrev cX12_count : ByteArray := prog_14_method_52_code
def yX12_count : MethodName := ⟨RX12, "count", "(II)I"⟩
abbrev cX12_fits : ByteArray := prog_14_method_53_code
def yX12_fits : MethodName := ⟨RX12, "fits", "(I)I"⟩
abbrev cX12_period : ByteArray := prog_14_method_54_code
def yX12_period : MethodName := ⟨RX12, "period", "(II)I"⟩
abbrev cX12_comesAgain : ByteArray := prog_14_method_55_code
def yX12_comesAgain : MethodName := ⟨RX12, "comesAgain", "(III)Z"⟩
abbrev cX12_isFull : ByteArray := prog_14_method_56_code
def yX12_isFull : MethodName := ⟨RX12, "isFull", "(I)Z"⟩
abbrev cX12_wide : ByteArray := prog_14_method_57_code
def yX12_wide : MethodName := ⟨RX12, "wide", "(I)I"⟩
abbrev cX12_movedCell : ByteArray := prog_14_method_58_code
def yX12_movedCell : MethodName := ⟨RX12, "movedCell", "(IIII)I"⟩
abbrev cX12_isMoved : ByteArray := prog_14_method_59_code
def yX12_isMoved : MethodName := ⟨RX12, "isMoved", "(III)Z"⟩
abbrev cX12_kept : ByteArray := prog_14_method_60_code
def yX12_kept : MethodName := ⟨RX12, "kept", "(I)I"⟩
abbrev cX12_congruent : ByteArray := prog_14_method_61_code
def yX12_congruent : MethodName := ⟨RX12, "congruent", "(II)I"⟩
abbrev cX12_isFound : ByteArray := prog_14_method_62_code
def yX12_isFound : MethodName := ⟨RX12, "isFound", "(IIIII)Z"⟩
abbrev cX12_find : ByteArray := prog_14_method_63_code
def yX12_find : MethodName := ⟨RX12, "find", "(III)I"⟩
abbrev cX12_isFloor : ByteArray := prog_14_method_64_code
def yX12_isFloor : MethodName := ⟨RX12, "isFloor", "(I)Z"⟩
abbrev cX12_floor : ByteArray := prog_14_method_65_code
def yX12_floor : MethodName := ⟨RX12, "floor", "(II)I"⟩
abbrev cX12_isPlace : ByteArray := prog_14_method_66_code
def yX12_isPlace : MethodName := ⟨RX12, "isPlace", "(III)Z"⟩
abbrev cX12_place : ByteArray := prog_14_method_67_code
def yX12_place : MethodName := ⟨RX12, "place", "(IIIII)Z"⟩
abbrev cX12_stock : ByteArray := prog_14_method_68_code
def yX12_stock : MethodName := ⟨RX12, "stock", "(III)Z"⟩
abbrev cX12_shown : ByteArray := prog_14_method_69_code
def yX12_shown : MethodName := ⟨RX12, "shown", "(III)I"⟩
abbrev cX12_lyingAt : ByteArray := prog_14_method_70_code
def yX12_lyingAt : MethodName := ⟨RX12, "lyingAt", "(II)I"⟩
abbrev cX12_mayLie : ByteArray := prog_14_method_71_code
def yX12_mayLie : MethodName := ⟨RX12, "mayLie", "(II)Z"⟩
abbrev cX12_nextFitting : ByteArray := prog_14_method_72_code
def yX12_nextFitting : MethodName := ⟨RX12, "nextFitting", "(II)I"⟩
abbrev cX12_fitting : ByteArray := prog_14_method_73_code
def yX12_fitting : MethodName := ⟨RX12, "fitting", "(I)I"⟩
abbrev cX12_starts : ByteArray := prog_14_method_74_code
def yX12_starts : MethodName := ⟨RX12, "starts", "(I)Z"⟩
abbrev cX12_show : ByteArray := prog_14_method_75_code
def yX12_show : MethodName := ⟨RX12, "show", "()V"⟩
abbrev cX12_nextPlace : ByteArray := prog_14_method_76_code
def yX12_nextPlace : MethodName := ⟨RX12, "nextPlace", "()I"⟩
abbrev cX12_lay : ByteArray := prog_14_method_77_code
def yX12_lay : MethodName := ⟨RX12, "lay", "(II)V"⟩
abbrev cX12_takeBack : ByteArray := prog_14_method_78_code
def yX12_takeBack : MethodName := ⟨RX12, "takeBack", "(I)V"⟩
abbrev cX12_leastCost : ByteArray := prog_14_method_79_code
def yX12_leastCost : MethodName := ⟨RX12, "leastCost", "()I"⟩
abbrev cX12_search : ByteArray := prog_14_method_80_code
def yX12_search : MethodName := ⟨RX12, "search", "(IZ)V"⟩
abbrev cX12_fill : ByteArray := prog_14_method_81_code
def yX12_fill : MethodName := ⟨RX12, "fill", "(I)I"⟩
abbrev cX12_fills : ByteArray := prog_14_method_82_code
def yX12_fills : MethodName := ⟨RX12, "fills", "(II)I"⟩
abbrev cX12_cheapest : ByteArray := prog_14_method_83_code
def yX12_cheapest : MethodName := ⟨RX12, "cheapest", "(I)I"⟩
abbrev cX12_forced : ByteArray := prog_14_method_84_code
def yX12_forced : MethodName := ⟨RX12, "forced", "(I)I"⟩
abbrev cX12_about : ByteArray := prog_14_method_85_code
def yX12_about : MethodName := ⟨RX12, "about", "(I)I"⟩
def RJx8e188 : String := "java/lang/Cloneable"
def TJx8e188 : u_T := fun k => match k with
  | _ => ("", "", "", false)
def tyJx8e188 : Nat → FieldType := fun k => match k with
  | _ => .int
abbrev wsJx8e1880 : List Cond := u_ws RJx8e188 TJx8e188 0
theorem nmJx8e188 : ∀ a, a < 0 → ∀ b, b < 0 → a ≠ b → (TJx8e188 a).2.1 ≠ (TJx8e188 b).2.1 := by decide +kernel
theorem tyJx8e188_ok : ∀ k, k < 0 → parseFieldDescriptor (TJx8e188 k).2.2.1 = some (tyJx8e188 k) := by decide +kernel
def RJ6 : String := "java/lang/Integer"
def TJ6 : u_T := fun k => match k with
  | _ => ("", "", "", false)
def tyJ6 : Nat → FieldType := fun k => match k with
  | _ => .int
abbrev wsJ60 : List Cond := u_ws RJ6 TJ6 0
theorem nmJ6 : ∀ a, a < 0 → ∀ b, b < 0 → a ≠ b → (TJ6 a).2.1 ≠ (TJ6 b).2.1 := by decide +kernel
theorem tyJ6_ok : ∀ k, k < 0 → parseFieldDescriptor (TJ6 k).2.2.1 = some (tyJ6 k) := by decide +kernel
abbrev cJ6_numberOfTrailingZeros_0f7a4 : ByteArray := prog_16_method_48_code
def yJ6_numberOfTrailingZeros_0f7a4 : MethodName := ⟨RJ6, "numberOfTrailingZeros", "(I)I"⟩
abbrev cJ6_bitCount_0f7a4 : ByteArray := prog_16_method_49_code
def yJ6_bitCount_0f7a4 : MethodName := ⟨RJ6, "bitCount", "(I)I"⟩
def RJ13 : String := "java/lang/Long"
def TJ13 : u_T := fun k => match k with
  | _ => ("", "", "", false)
def tyJ13 : Nat → FieldType := fun k => match k with
  | _ => .int
abbrev wsJ130 : List Cond := u_ws RJ13 TJ13 0
theorem nmJ13 : ∀ a, a < 0 → ∀ b, b < 0 → a ≠ b → (TJ13 a).2.1 ≠ (TJ13 b).2.1 := by decide +kernel
theorem tyJ13_ok : ∀ k, k < 0 → parseFieldDescriptor (TJ13 k).2.2.1 = some (tyJ13 k) := by decide +kernel
abbrev cJ13_numberOfTrailingZeros_95d88 : ByteArray := prog_17_method_49_code
def yJ13_numberOfTrailingZeros_95d88 : MethodName := ⟨RJ13, "numberOfTrailingZeros", "(J)I"⟩
abbrev cJ13_bitCount_95d88 : ByteArray := prog_17_method_50_code
def yJ13_bitCount_95d88 : MethodName := ⟨RJ13, "bitCount", "(J)I"⟩
def RJ9 : String := "java/lang/Math"
def TJ9 : u_T := fun k => match k with
  | _ => ("", "", "", false)
def tyJ9 : Nat → FieldType := fun k => match k with
  | _ => .int
abbrev wsJ90 : List Cond := u_ws RJ9 TJ9 0
theorem nmJ9 : ∀ a, a < 0 → ∀ b, b < 0 → a ≠ b → (TJ9 a).2.1 ≠ (TJ9 b).2.1 := by decide +kernel
theorem tyJ9_ok : ∀ k, k < 0 → parseFieldDescriptor (TJ9 k).2.2.1 = some (tyJ9 k) := by decide +kernel
abbrev cJ9_floorDiv_7cf53 : ByteArray := prog_18_method_47_code
def yJ9_floorDiv_7cf53 : MethodName := ⟨RJ9, "floorDiv", "(II)I"⟩
abbrev cJ9_floorMod_7cf53 : ByteArray := prog_18_method_50_code
def yJ9_floorMod_7cf53 : MethodName := ⟨RJ9, "floorMod", "(II)I"⟩
abbrev cJ9_max_7cf53 : ByteArray := prog_18_method_65_code
def yJ9_max_7cf53 : MethodName := ⟨RJ9, "max", "(II)I"⟩
abbrev cJ9_min_7cf53 : ByteArray := prog_18_method_69_code
def yJ9_min_7cf53 : MethodName := ⟨RJ9, "min", "(II)I"⟩
def RJ10 : String := "java/lang/System"
def TJ10 : u_T := fun k => match k with
  | _ => ("", "", "", false)
def tyJ10 : Nat → FieldType := fun k => match k with
  | _ => .int
abbrev wsJ100 : List Cond := u_ws RJ10 TJ10 0
theorem nmJ10 : ∀ a, a < 0 → ∀ b, b < 0 → a ≠ b → (TJ10 a).2.1 ≠ (TJ10 b).2.1 := by decide +kernel
theorem tyJ10_ok : ∀ k, k < 0 → parseFieldDescriptor (TJ10 k).2.2.1 = some (tyJ10 k) := by decide +kernel
def RJ7 : String := "java/util/Arrays"
def TJ7 : u_T := fun k => match k with
  | _ => ("", "", "", false)
def tyJ7 : Nat → FieldType := fun k => match k with
  | _ => .int
abbrev wsJ70 : List Cond := u_ws RJ7 TJ7 0
theorem nmJ7 : ∀ a, a < 0 → ∀ b, b < 0 → a ≠ b → (TJ7 a).2.1 ≠ (TJ7 b).2.1 := by decide +kernel
theorem tyJ7_ok : ∀ k, k < 0 → parseFieldDescriptor (TJ7 k).2.2.1 = some (tyJ7 k) := by decide +kernel
abbrev cJ7_fill_d0a16 : ByteArray := prog_20_method_101_code
def yJ7_fill_d0a16 : MethodName := ⟨RJ7, "fill", "([JJ)V"⟩
abbrev cJ7_fill_53178 : ByteArray := prog_20_method_103_code
def yJ7_fill_53178 : MethodName := ⟨RJ7, "fill", "([II)V"⟩
def RL : String := "TileOfficeLaw"
abbrev cL_law : ByteArray := code
def yL_law : MethodName := ⟨RL, "law", "([I)Z"⟩
