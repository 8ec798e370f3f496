section
-- ===== PART A: goes FIRST, ahead of the names: the tables' words, and 'selects' of the private methods out of them =====
/-- a private method of a class that the tables say can be made, by its rows of tables_1 -/
def lw_okq (q : MethodName × Nat) : Prop := (q.1.cls ≠ "java/lang/invoke/MethodHandle" ∧ q.1.cls ≠ "java/lang/invoke/VarHandle") ∧ Cond.instantiable q.1.cls q.2 ∈ tables_1 ∧ Cond.privateMethod q.1 ∈ tables_1 ∧ Cond.instanceMethod q.1 ∈ tables_1
theorem lw_p0 : lw_okq (⟨"TemplateEngine", "templatesThere", "()I"⟩, 8) := ⟨⟨by decide +kernel, by decide +kernel⟩, List.mem_of_getElem? (i := 31) (by decide +kernel), List.mem_of_getElem? (i := 188) (by decide +kernel), List.mem_of_getElem? (i := 189) (by decide +kernel)⟩
theorem lw_p1 : lw_okq (⟨"java/lang/Throwable", "fillInStackTrace", "(I)Ljava/lang/Throwable;"⟩, 6) := ⟨⟨by decide +kernel, by decide +kernel⟩, List.mem_of_getElem? (i := 241) (by decide +kernel), List.mem_of_getElem? (i := 239) (by decide +kernel), List.mem_of_getElem? (i := 240) (by decide +kernel)⟩
theorem lw_p2 : lw_okq (⟨"TemplateEngine$Text", "append", "(C)V"⟩, 2) := ⟨⟨by decide +kernel, by decide +kernel⟩, List.mem_of_getElem? (i := 39) (by decide +kernel), List.mem_of_getElem? (i := 287) (by decide +kernel), List.mem_of_getElem? (i := 288) (by decide +kernel)⟩
theorem lw_p3 : lw_okq (⟨"TemplateEngine", "keep", "(LTemplateEngine$Value;)I"⟩, 8) := ⟨⟨by decide +kernel, by decide +kernel⟩, List.mem_of_getElem? (i := 31) (by decide +kernel), List.mem_of_getElem? (i := 303) (by decide +kernel), List.mem_of_getElem? (i := 304) (by decide +kernel)⟩
theorem lw_p4 : lw_okq (⟨"TemplateEngine$Text", "copyOf", "(II)LTemplateEngine$Text;"⟩, 2) := ⟨⟨by decide +kernel, by decide +kernel⟩, List.mem_of_getElem? (i := 39) (by decide +kernel), List.mem_of_getElem? (i := 314) (by decide +kernel), List.mem_of_getElem? (i := 315) (by decide +kernel)⟩
theorem lw_p5 : lw_okq (⟨"TemplateEngine$Text", "clear", "()V"⟩, 2) := ⟨⟨by decide +kernel, by decide +kernel⟩, List.mem_of_getElem? (i := 39) (by decide +kernel), List.mem_of_getElem? (i := 325) (by decide +kernel), List.mem_of_getElem? (i := 326) (by decide +kernel)⟩
theorem lw_p6 : lw_okq (⟨"TemplateEngine", "isData", "(I)Z"⟩, 8) := ⟨⟨by decide +kernel, by decide +kernel⟩, List.mem_of_getElem? (i := 31) (by decide +kernel), List.mem_of_getElem? (i := 355) (by decide +kernel), List.mem_of_getElem? (i := 356) (by decide +kernel)⟩
theorem lw_p7 : lw_okq (⟨"TemplateEngine", "wouldHoldItself", "(LTemplateEngine$Value;LTemplateEngine$Value;)Z"⟩, 8) := ⟨⟨by decide +kernel, by decide +kernel⟩, List.mem_of_getElem? (i := 31) (by decide +kernel), List.mem_of_getElem? (i := 375) (by decide +kernel), List.mem_of_getElem? (i := 376) (by decide +kernel)⟩
theorem lw_p8 : lw_okq (⟨"TemplateEngine", "isWithin", "(LTemplateEngine$Value;LTemplateEngine$Value;I)Z"⟩, 8) := ⟨⟨by decide +kernel, by decide +kernel⟩, List.mem_of_getElem? (i := 31) (by decide +kernel), List.mem_of_getElem? (i := 379) (by decide +kernel), List.mem_of_getElem? (i := 380) (by decide +kernel)⟩
theorem lw_p9 : lw_okq (⟨"TemplateEngine$Value", "setEntry", "(IJLTemplateEngine$Value;)V"⟩, 7) := ⟨⟨by decide +kernel, by decide +kernel⟩, List.mem_of_getElem? (i := 72) (by decide +kernel), List.mem_of_getElem? (i := 385) (by decide +kernel), List.mem_of_getElem? (i := 386) (by decide +kernel)⟩
theorem lw_p10 : lw_okq (⟨"TemplateEngine$Text", "nameCode", "(II)J"⟩, 2) := ⟨⟨by decide +kernel, by decide +kernel⟩, List.mem_of_getElem? (i := 39) (by decide +kernel), List.mem_of_getElem? (i := 397) (by decide +kernel), List.mem_of_getElem? (i := 398) (by decide +kernel)⟩
theorem lw_p11 : lw_okq (⟨"TemplateEngine$Value", "placeOf", "(J)I"⟩, 7) := ⟨⟨by decide +kernel, by decide +kernel⟩, List.mem_of_getElem? (i := 72) (by decide +kernel), List.mem_of_getElem? (i := 403) (by decide +kernel), List.mem_of_getElem? (i := 404) (by decide +kernel)⟩
theorem lw_p12 : lw_okq (⟨"TemplateEngine$TemplateReader", "takeApart", "()V"⟩, 10) := ⟨⟨by decide +kernel, by decide +kernel⟩, List.mem_of_getElem? (i := 432) (by decide +kernel), List.mem_of_getElem? (i := 517) (by decide +kernel), List.mem_of_getElem? (i := 518) (by decide +kernel)⟩
theorem lw_p13 : lw_okq (⟨"TemplateEngine$Text", "find", "(Ljava/lang/String;I)I"⟩, 2) := ⟨⟨by decide +kernel, by decide +kernel⟩, List.mem_of_getElem? (i := 39) (by decide +kernel), List.mem_of_getElem? (i := 522) (by decide +kernel), List.mem_of_getElem? (i := 523) (by decide +kernel)⟩
theorem lw_p14 : lw_okq (⟨"TemplateEngine$Text", "hasWord", "(Ljava/lang/String;II)Z"⟩, 2) := ⟨⟨by decide +kernel, by decide +kernel⟩, List.mem_of_getElem? (i := 39) (by decide +kernel), List.mem_of_getElem? (i := 526) (by decide +kernel), List.mem_of_getElem? (i := 527) (by decide +kernel)⟩
theorem lw_p15 : lw_okq (⟨"TemplateEngine$TemplateReader", "attachPlain", "(II)V"⟩, 10) := ⟨⟨by decide +kernel, by decide +kernel⟩, List.mem_of_getElem? (i := 432) (by decide +kernel), List.mem_of_getElem? (i := 578) (by decide +kernel), List.mem_of_getElem? (i := 579) (by decide +kernel)⟩
def lw_privs_1 : List (MethodName × Nat) := [(⟨"TemplateEngine", "templatesThere", "()I"⟩, 8), (⟨"java/lang/Throwable", "fillInStackTrace", "(I)Ljava/lang/Throwable;"⟩, 6), (⟨"TemplateEngine$Text", "append", "(C)V"⟩, 2), (⟨"TemplateEngine", "keep", "(LTemplateEngine$Value;)I"⟩, 8), (⟨"TemplateEngine$Text", "copyOf", "(II)LTemplateEngine$Text;"⟩, 2), (⟨"TemplateEngine$Text", "clear", "()V"⟩, 2), (⟨"TemplateEngine", "isData", "(I)Z"⟩, 8), (⟨"TemplateEngine", "wouldHoldItself", "(LTemplateEngine$Value;LTemplateEngine$Value;)Z"⟩, 8), (⟨"TemplateEngine", "isWithin", "(LTemplateEngine$Value;LTemplateEngine$Value;I)Z"⟩, 8), (⟨"TemplateEngine$Value", "setEntry", "(IJLTemplateEngine$Value;)V"⟩, 7), (⟨"TemplateEngine$Text", "nameCode", "(II)J"⟩, 2), (⟨"TemplateEngine$Value", "placeOf", "(J)I"⟩, 7), (⟨"TemplateEngine$TemplateReader", "takeApart", "()V"⟩, 10), (⟨"TemplateEngine$Text", "find", "(Ljava/lang/String;I)I"⟩, 2), (⟨"TemplateEngine$Text", "hasWord", "(Ljava/lang/String;II)Z"⟩, 2), (⟨"TemplateEngine$TemplateReader", "attachPlain", "(II)V"⟩, 10)]
theorem lw_r1 : ∀ q ∈ lw_privs_1, lw_okq q := List.forall_mem_cons.mpr ⟨lw_p0, List.forall_mem_cons.mpr ⟨lw_p1, List.forall_mem_cons.mpr ⟨lw_p2, List.forall_mem_cons.mpr ⟨lw_p3, List.forall_mem_cons.mpr ⟨lw_p4, List.forall_mem_cons.mpr ⟨lw_p5, List.forall_mem_cons.mpr ⟨lw_p6, List.forall_mem_cons.mpr ⟨lw_p7, List.forall_mem_cons.mpr ⟨lw_p8, List.forall_mem_cons.mpr ⟨lw_p9, List.forall_mem_cons.mpr ⟨lw_p10, List.forall_mem_cons.mpr ⟨lw_p11, List.forall_mem_cons.mpr ⟨lw_p12, List.forall_mem_cons.mpr ⟨lw_p13, List.forall_mem_cons.mpr ⟨lw_p14, List.forall_mem_cons.mpr ⟨lw_p15, fun _ h => absurd h List.not_mem_nil⟩⟩⟩⟩⟩⟩⟩⟩⟩⟩⟩⟩⟩⟩⟩⟩
theorem lw_p16 : lw_okq (⟨"TemplateEngine$TemplateReader", "attach", "(LTemplateEngine$Part;)V"⟩, 10) := ⟨⟨by decide +kernel, by decide +kernel⟩, List.mem_of_getElem? (i := 432) (by decide +kernel), List.mem_of_getElem? (i := 585) (by decide +kernel), List.mem_of_getElem? (i := 586) (by decide +kernel)⟩
theorem lw_p17 : lw_okq (⟨"TemplateEngine$TemplateReader", "readSort", "(Z)LTemplateEngine$Sort;"⟩, 10) := ⟨⟨by decide +kernel, by decide +kernel⟩, List.mem_of_getElem? (i := 432) (by decide +kernel), List.mem_of_getElem? (i := 594) (by decide +kernel), List.mem_of_getElem? (i := 595) (by decide +kernel)⟩
theorem lw_p18 : lw_okq (⟨"TemplateEngine$TemplateReader", "accept", "(Ljava/lang/String;)Z"⟩, 10) := ⟨⟨by decide +kernel, by decide +kernel⟩, List.mem_of_getElem? (i := 432) (by decide +kernel), List.mem_of_getElem? (i := 601) (by decide +kernel), List.mem_of_getElem? (i := 602) (by decide +kernel)⟩
theorem lw_p19 : lw_okq (⟨"TemplateEngine$TemplateReader", "isInside", "(Ljava/lang/String;)Z"⟩, 10) := ⟨⟨by decide +kernel, by decide +kernel⟩, List.mem_of_getElem? (i := 432) (by decide +kernel), List.mem_of_getElem? (i := 620) (by decide +kernel), List.mem_of_getElem? (i := 621) (by decide +kernel)⟩
theorem lw_p20 : lw_okq (⟨"TemplateEngine$TemplateReader", "readRest", "(LTemplateEngine$Sort;I)LTemplateEngine$Part;"⟩, 10) := ⟨⟨by decide +kernel, by decide +kernel⟩, List.mem_of_getElem? (i := 432) (by decide +kernel), List.mem_of_getElem? (i := 637) (by decide +kernel), List.mem_of_getElem? (i := 638) (by decide +kernel)⟩
theorem lw_p21 : lw_okq (⟨"TemplateEngine$TemplateReader", "readExpression", "()LTemplateEngine$Expression;"⟩, 10) := ⟨⟨by decide +kernel, by decide +kernel⟩, List.mem_of_getElem? (i := 432) (by decide +kernel), List.mem_of_getElem? (i := 649) (by decide +kernel), List.mem_of_getElem? (i := 650) (by decide +kernel)⟩
theorem lw_p22 : lw_okq (⟨"TemplateEngine$TemplateReader", "readHelper", "()LTemplateEngine$Helper;"⟩, 10) := ⟨⟨by decide +kernel, by decide +kernel⟩, List.mem_of_getElem? (i := 432) (by decide +kernel), List.mem_of_getElem? (i := 653) (by decide +kernel), List.mem_of_getElem? (i := 654) (by decide +kernel)⟩
theorem lw_p23 : lw_okq (⟨"TemplateEngine$TemplateReader", "readOperand", "()LTemplateEngine$Operand;"⟩, 10) := ⟨⟨by decide +kernel, by decide +kernel⟩, List.mem_of_getElem? (i := 432) (by decide +kernel), List.mem_of_getElem? (i := 661) (by decide +kernel), List.mem_of_getElem? (i := 662) (by decide +kernel)⟩
theorem lw_p24 : lw_okq (⟨"TemplateEngine$TemplateReader", "isDigitNext", "()Z"⟩, 10) := ⟨⟨by decide +kernel, by decide +kernel⟩, List.mem_of_getElem? (i := 432) (by decide +kernel), List.mem_of_getElem? (i := 665) (by decide +kernel), List.mem_of_getElem? (i := 666) (by decide +kernel)⟩
theorem lw_p25 : lw_okq (⟨"TemplateEngine$TemplateReader", "readNumber", "()LTemplateEngine$Operand;"⟩, 10) := ⟨⟨by decide +kernel, by decide +kernel⟩, List.mem_of_getElem? (i := 432) (by decide +kernel), List.mem_of_getElem? (i := 669) (by decide +kernel), List.mem_of_getElem? (i := 670) (by decide +kernel)⟩
theorem lw_p26 : lw_okq (⟨"TemplateEngine$TemplateReader", "readDigit", "()I"⟩, 10) := ⟨⟨by decide +kernel, by decide +kernel⟩, List.mem_of_getElem? (i := 432) (by decide +kernel), List.mem_of_getElem? (i := 673) (by decide +kernel), List.mem_of_getElem? (i := 674) (by decide +kernel)⟩
theorem lw_p27 : lw_okq (⟨"TemplateEngine$TemplateReader", "readQuoted", "()LTemplateEngine$Operand;"⟩, 10) := ⟨⟨by decide +kernel, by decide +kernel⟩, List.mem_of_getElem? (i := 432) (by decide +kernel), List.mem_of_getElem? (i := 704) (by decide +kernel), List.mem_of_getElem? (i := 705) (by decide +kernel)⟩
theorem lw_p28 : lw_okq (⟨"TemplateEngine$TemplateReader", "readPath", "()LTemplateEngine$Operand;"⟩, 10) := ⟨⟨by decide +kernel, by decide +kernel⟩, List.mem_of_getElem? (i := 432) (by decide +kernel), List.mem_of_getElem? (i := 715) (by decide +kernel), List.mem_of_getElem? (i := 716) (by decide +kernel)⟩
theorem lw_p29 : lw_okq (⟨"TemplateEngine$TemplateReader", "readName", "()J"⟩, 10) := ⟨⟨by decide +kernel, by decide +kernel⟩, List.mem_of_getElem? (i := 432) (by decide +kernel), List.mem_of_getElem? (i := 722) (by decide +kernel), List.mem_of_getElem? (i := 723) (by decide +kernel)⟩
theorem lw_p30 : lw_okq (⟨"TemplateEngine$TemplateReader", "takeIn", "(LTemplateEngine$Part;)Z"⟩, 10) := ⟨⟨by decide +kernel, by decide +kernel⟩, List.mem_of_getElem? (i := 432) (by decide +kernel), List.mem_of_getElem? (i := 765) (by decide +kernel), List.mem_of_getElem? (i := 766) (by decide +kernel)⟩
theorem lw_p31 : lw_okq (⟨"TemplateEngine$TemplateReader", "beginBlock", "(LTemplateEngine$Part;)Z"⟩, 10) := ⟨⟨by decide +kernel, by decide +kernel⟩, List.mem_of_getElem? (i := 432) (by decide +kernel), List.mem_of_getElem? (i := 769) (by decide +kernel), List.mem_of_getElem? (i := 770) (by decide +kernel)⟩
def lw_privs_2 : List (MethodName × Nat) := [(⟨"TemplateEngine$TemplateReader", "attach", "(LTemplateEngine$Part;)V"⟩, 10), (⟨"TemplateEngine$TemplateReader", "readSort", "(Z)LTemplateEngine$Sort;"⟩, 10), (⟨"TemplateEngine$TemplateReader", "accept", "(Ljava/lang/String;)Z"⟩, 10), (⟨"TemplateEngine$TemplateReader", "isInside", "(Ljava/lang/String;)Z"⟩, 10), (⟨"TemplateEngine$TemplateReader", "readRest", "(LTemplateEngine$Sort;I)LTemplateEngine$Part;"⟩, 10), (⟨"TemplateEngine$TemplateReader", "readExpression", "()LTemplateEngine$Expression;"⟩, 10), (⟨"TemplateEngine$TemplateReader", "readHelper", "()LTemplateEngine$Helper;"⟩, 10), (⟨"TemplateEngine$TemplateReader", "readOperand", "()LTemplateEngine$Operand;"⟩, 10), (⟨"TemplateEngine$TemplateReader", "isDigitNext", "()Z"⟩, 10), (⟨"TemplateEngine$TemplateReader", "readNumber", "()LTemplateEngine$Operand;"⟩, 10), (⟨"TemplateEngine$TemplateReader", "readDigit", "()I"⟩, 10), (⟨"TemplateEngine$TemplateReader", "readQuoted", "()LTemplateEngine$Operand;"⟩, 10), (⟨"TemplateEngine$TemplateReader", "readPath", "()LTemplateEngine$Operand;"⟩, 10), (⟨"TemplateEngine$TemplateReader", "readName", "()J"⟩, 10), (⟨"TemplateEngine$TemplateReader", "takeIn", "(LTemplateEngine$Part;)Z"⟩, 10), (⟨"TemplateEngine$TemplateReader", "beginBlock", "(LTemplateEngine$Part;)Z"⟩, 10)]
theorem lw_r2 : ∀ q ∈ lw_privs_2, lw_okq q := List.forall_mem_cons.mpr ⟨lw_p16, List.forall_mem_cons.mpr ⟨lw_p17, List.forall_mem_cons.mpr ⟨lw_p18, List.forall_mem_cons.mpr ⟨lw_p19, List.forall_mem_cons.mpr ⟨lw_p20, List.forall_mem_cons.mpr ⟨lw_p21, List.forall_mem_cons.mpr ⟨lw_p22, List.forall_mem_cons.mpr ⟨lw_p23, List.forall_mem_cons.mpr ⟨lw_p24, List.forall_mem_cons.mpr ⟨lw_p25, List.forall_mem_cons.mpr ⟨lw_p26, List.forall_mem_cons.mpr ⟨lw_p27, List.forall_mem_cons.mpr ⟨lw_p28, List.forall_mem_cons.mpr ⟨lw_p29, List.forall_mem_cons.mpr ⟨lw_p30, List.forall_mem_cons.mpr ⟨lw_p31, fun _ h => absurd h List.not_mem_nil⟩⟩⟩⟩⟩⟩⟩⟩⟩⟩⟩⟩⟩⟩⟩⟩
theorem lw_p32 : lw_okq (⟨"TemplateEngine$TemplateReader", "beginOther", "()Z"⟩, 10) := ⟨⟨by decide +kernel, by decide +kernel⟩, List.mem_of_getElem? (i := 432) (by decide +kernel), List.mem_of_getElem? (i := 773) (by decide +kernel), List.mem_of_getElem? (i := 774) (by decide +kernel)⟩
theorem lw_p33 : lw_okq (⟨"TemplateEngine$TemplateReader", "endBlock", "(LTemplateEngine$Sort;)Z"⟩, 10) := ⟨⟨by decide +kernel, by decide +kernel⟩, List.mem_of_getElem? (i := 432) (by decide +kernel), List.mem_of_getElem? (i := 777) (by decide +kernel), List.mem_of_getElem? (i := 778) (by decide +kernel)⟩
theorem lw_p34 : lw_okq (⟨"TemplateEngine$Renderer", "run", "([LTemplateEngine$Part;LTemplateEngine$Part;LTemplateEngine$Value;)V"⟩, 13) := ⟨⟨by decide +kernel, by decide +kernel⟩, List.mem_of_getElem? (i := 62) (by decide +kernel), List.mem_of_getElem? (i := 791) (by decide +kernel), List.mem_of_getElem? (i := 792) (by decide +kernel)⟩
theorem lw_p35 : lw_okq (⟨"TemplateEngine$Renderer", "renderParts", "(LTemplateEngine$Part;I)V"⟩, 13) := ⟨⟨by decide +kernel, by decide +kernel⟩, List.mem_of_getElem? (i := 62) (by decide +kernel), List.mem_of_getElem? (i := 796) (by decide +kernel), List.mem_of_getElem? (i := 797) (by decide +kernel)⟩
theorem lw_p36 : lw_okq (⟨"TemplateEngine$Text", "appendText", "(LTemplateEngine$Text;)V"⟩, 2) := ⟨⟨by decide +kernel, by decide +kernel⟩, List.mem_of_getElem? (i := 39) (by decide +kernel), List.mem_of_getElem? (i := 802) (by decide +kernel), List.mem_of_getElem? (i := 803) (by decide +kernel)⟩
theorem lw_p37 : lw_okq (⟨"TemplateEngine$Renderer", "meetTag", "()V"⟩, 13) := ⟨⟨by decide +kernel, by decide +kernel⟩, List.mem_of_getElem? (i := 62) (by decide +kernel), List.mem_of_getElem? (i := 806) (by decide +kernel), List.mem_of_getElem? (i := 807) (by decide +kernel)⟩
theorem lw_p38 : lw_okq (⟨"TemplateEngine$Renderer", "evaluate", "(LTemplateEngine$Expression;LTemplateEngine$Value;)LTemplateEngine$Value;"⟩, 13) := ⟨⟨by decide +kernel, by decide +kernel⟩, List.mem_of_getElem? (i := 62) (by decide +kernel), List.mem_of_getElem? (i := 813) (by decide +kernel), List.mem_of_getElem? (i := 814) (by decide +kernel)⟩
theorem lw_p39 : lw_okq (⟨"TemplateEngine$Renderer", "valueOf", "(LTemplateEngine$Operand;LTemplateEngine$Value;)LTemplateEngine$Value;"⟩, 13) := ⟨⟨by decide +kernel, by decide +kernel⟩, List.mem_of_getElem? (i := 62) (by decide +kernel), List.mem_of_getElem? (i := 817) (by decide +kernel), List.mem_of_getElem? (i := 818) (by decide +kernel)⟩
theorem lw_p40 : lw_okq (⟨"TemplateEngine$Value", "becomeNumber", "(I)LTemplateEngine$Value;"⟩, 7) := ⟨⟨by decide +kernel, by decide +kernel⟩, List.mem_of_getElem? (i := 72) (by decide +kernel), List.mem_of_getElem? (i := 826) (by decide +kernel), List.mem_of_getElem? (i := 827) (by decide +kernel)⟩
theorem lw_p41 : lw_okq (⟨"TemplateEngine$Renderer", "follow", "(LTemplateEngine$Operand;)LTemplateEngine$Value;"⟩, 13) := ⟨⟨by decide +kernel, by decide +kernel⟩, List.mem_of_getElem? (i := 62) (by decide +kernel), List.mem_of_getElem? (i := 830) (by decide +kernel), List.mem_of_getElem? (i := 831) (by decide +kernel)⟩
theorem lw_p42 : lw_okq (⟨"TemplateEngine$Value", "elementAt", "(I)LTemplateEngine$Value;"⟩, 7) := ⟨⟨by decide +kernel, by decide +kernel⟩, List.mem_of_getElem? (i := 72) (by decide +kernel), List.mem_of_getElem? (i := 835) (by decide +kernel), List.mem_of_getElem? (i := 836) (by decide +kernel)⟩
theorem lw_p43 : lw_okq (⟨"TemplateEngine$Value", "entryNamed", "(J)LTemplateEngine$Value;"⟩, 7) := ⟨⟨by decide +kernel, by decide +kernel⟩, List.mem_of_getElem? (i := 72) (by decide +kernel), List.mem_of_getElem? (i := 839) (by decide +kernel), List.mem_of_getElem? (i := 840) (by decide +kernel)⟩
theorem lw_p44 : lw_okq (⟨"TemplateEngine$Text", "appendNumber", "(I)V"⟩, 2) := ⟨⟨by decide +kernel, by decide +kernel⟩, List.mem_of_getElem? (i := 39) (by decide +kernel), List.mem_of_getElem? (i := 851) (by decide +kernel), List.mem_of_getElem? (i := 852) (by decide +kernel)⟩
theorem lw_p45 : lw_okq (⟨"TemplateEngine$Text", "appendWord", "(Ljava/lang/String;)V"⟩, 2) := ⟨⟨by decide +kernel, by decide +kernel⟩, List.mem_of_getElem? (i := 39) (by decide +kernel), List.mem_of_getElem? (i := 860) (by decide +kernel), List.mem_of_getElem? (i := 861) (by decide +kernel)⟩
theorem lw_p46 : lw_okq (⟨"TemplateEngine$Text", "raiseLetters", "()V"⟩, 2) := ⟨⟨by decide +kernel, by decide +kernel⟩, List.mem_of_getElem? (i := 39) (by decide +kernel), List.mem_of_getElem? (i := 864) (by decide +kernel), List.mem_of_getElem? (i := 865) (by decide +kernel)⟩
theorem lw_p47 : lw_okq (⟨"TemplateEngine$Value", "measure", "()I"⟩, 7) := ⟨⟨by decide +kernel, by decide +kernel⟩, List.mem_of_getElem? (i := 72) (by decide +kernel), List.mem_of_getElem? (i := 868) (by decide +kernel), List.mem_of_getElem? (i := 869) (by decide +kernel)⟩
def lw_privs_3 : List (MethodName × Nat) := [(⟨"TemplateEngine$TemplateReader", "beginOther", "()Z"⟩, 10), (⟨"TemplateEngine$TemplateReader", "endBlock", "(LTemplateEngine$Sort;)Z"⟩, 10), (⟨"TemplateEngine$Renderer", "run", "([LTemplateEngine$Part;LTemplateEngine$Part;LTemplateEngine$Value;)V"⟩, 13), (⟨"TemplateEngine$Renderer", "renderParts", "(LTemplateEngine$Part;I)V"⟩, 13), (⟨"TemplateEngine$Text", "appendText", "(LTemplateEngine$Text;)V"⟩, 2), (⟨"TemplateEngine$Renderer", "meetTag", "()V"⟩, 13), (⟨"TemplateEngine$Renderer", "evaluate", "(LTemplateEngine$Expression;LTemplateEngine$Value;)LTemplateEngine$Value;"⟩, 13), (⟨"TemplateEngine$Renderer", "valueOf", "(LTemplateEngine$Operand;LTemplateEngine$Value;)LTemplateEngine$Value;"⟩, 13), (⟨"TemplateEngine$Value", "becomeNumber", "(I)LTemplateEngine$Value;"⟩, 7), (⟨"TemplateEngine$Renderer", "follow", "(LTemplateEngine$Operand;)LTemplateEngine$Value;"⟩, 13), (⟨"TemplateEngine$Value", "elementAt", "(I)LTemplateEngine$Value;"⟩, 7), (⟨"TemplateEngine$Value", "entryNamed", "(J)LTemplateEngine$Value;"⟩, 7), (⟨"TemplateEngine$Text", "appendNumber", "(I)V"⟩, 2), (⟨"TemplateEngine$Text", "appendWord", "(Ljava/lang/String;)V"⟩, 2), (⟨"TemplateEngine$Text", "raiseLetters", "()V"⟩, 2), (⟨"TemplateEngine$Value", "measure", "()I"⟩, 7)]
theorem lw_r3 : ∀ q ∈ lw_privs_3, lw_okq q := List.forall_mem_cons.mpr ⟨lw_p32, List.forall_mem_cons.mpr ⟨lw_p33, List.forall_mem_cons.mpr ⟨lw_p34, List.forall_mem_cons.mpr ⟨lw_p35, List.forall_mem_cons.mpr ⟨lw_p36, List.forall_mem_cons.mpr ⟨lw_p37, List.forall_mem_cons.mpr ⟨lw_p38, List.forall_mem_cons.mpr ⟨lw_p39, List.forall_mem_cons.mpr ⟨lw_p40, List.forall_mem_cons.mpr ⟨lw_p41, List.forall_mem_cons.mpr ⟨lw_p42, List.forall_mem_cons.mpr ⟨lw_p43, List.forall_mem_cons.mpr ⟨lw_p44, List.forall_mem_cons.mpr ⟨lw_p45, List.forall_mem_cons.mpr ⟨lw_p46, List.forall_mem_cons.mpr ⟨lw_p47, fun _ h => absurd h List.not_mem_nil⟩⟩⟩⟩⟩⟩⟩⟩⟩⟩⟩⟩⟩⟩⟩⟩
theorem lw_p48 : lw_okq (⟨"TemplateEngine$Value", "isFalse", "()Z"⟩, 7) := ⟨⟨by decide +kernel, by decide +kernel⟩, List.mem_of_getElem? (i := 72) (by decide +kernel), List.mem_of_getElem? (i := 875) (by decide +kernel), List.mem_of_getElem? (i := 876) (by decide +kernel)⟩
theorem lw_p49 : lw_okq (⟨"TemplateEngine$Text", "isLike", "(LTemplateEngine$Text;)Z"⟩, 2) := ⟨⟨by decide +kernel, by decide +kernel⟩, List.mem_of_getElem? (i := 39) (by decide +kernel), List.mem_of_getElem? (i := 882) (by decide +kernel), List.mem_of_getElem? (i := 883) (by decide +kernel)⟩
theorem lw_p50 : lw_okq (⟨"TemplateEngine$Renderer", "showEscaped", "(LTemplateEngine$Value;)V"⟩, 13) := ⟨⟨by decide +kernel, by decide +kernel⟩, List.mem_of_getElem? (i := 62) (by decide +kernel), List.mem_of_getElem? (i := 886) (by decide +kernel), List.mem_of_getElem? (i := 887) (by decide +kernel)⟩
theorem lw_p51 : lw_okq (⟨"TemplateEngine$Text", "appendEscaped", "(LTemplateEngine$Text;)V"⟩, 2) := ⟨⟨by decide +kernel, by decide +kernel⟩, List.mem_of_getElem? (i := 39) (by decide +kernel), List.mem_of_getElem? (i := 890) (by decide +kernel), List.mem_of_getElem? (i := 891) (by decide +kernel)⟩
theorem lw_p52 : lw_okq (⟨"TemplateEngine$Renderer", "renderPartial", "(II)V"⟩, 13) := ⟨⟨by decide +kernel, by decide +kernel⟩, List.mem_of_getElem? (i := 62) (by decide +kernel), List.mem_of_getElem? (i := 899) (by decide +kernel), List.mem_of_getElem? (i := 900) (by decide +kernel)⟩
theorem lw_p53 : lw_okq (⟨"TemplateEngine$Renderer", "renderBlock", "(LTemplateEngine$Part;I)V"⟩, 13) := ⟨⟨by decide +kernel, by decide +kernel⟩, List.mem_of_getElem? (i := 62) (by decide +kernel), List.mem_of_getElem? (i := 922) (by decide +kernel), List.mem_of_getElem? (i := 923) (by decide +kernel)⟩
theorem lw_p54 : lw_okq (⟨"TemplateEngine$Renderer", "renderEach", "(LTemplateEngine$Part;LTemplateEngine$Value;I)V"⟩, 13) := ⟨⟨by decide +kernel, by decide +kernel⟩, List.mem_of_getElem? (i := 62) (by decide +kernel), List.mem_of_getElem? (i := 929) (by decide +kernel), List.mem_of_getElem? (i := 930) (by decide +kernel)⟩
theorem lw_p55 : lw_okq (⟨"TemplateEngineModel", "refuse", "(I)I"⟩, 48) := ⟨⟨by decide +kernel, by decide +kernel⟩, List.mem_of_getElem? (i := 956) (by decide +kernel), List.mem_of_getElem? (i := 1117) (by decide +kernel), List.mem_of_getElem? (i := 1118) (by decide +kernel)⟩
theorem lw_p56 : lw_okq (⟨"TemplateEngineModel", "fine", "(I)I"⟩, 48) := ⟨⟨by decide +kernel, by decide +kernel⟩, List.mem_of_getElem? (i := 956) (by decide +kernel), List.mem_of_getElem? (i := 1121) (by decide +kernel), List.mem_of_getElem? (i := 1122) (by decide +kernel)⟩
theorem lw_p57 : lw_okq (⟨"TemplateEngineModel", "make", "(II)I"⟩, 48) := ⟨⟨by decide +kernel, by decide +kernel⟩, List.mem_of_getElem? (i := 956) (by decide +kernel), List.mem_of_getElem? (i := 1129) (by decide +kernel), List.mem_of_getElem? (i := 1130) (by decide +kernel)⟩
theorem lw_p58 : lw_okq (⟨"TemplateEngineModel", "no", "(I)Z"⟩, 48) := ⟨⟨by decide +kernel, by decide +kernel⟩, List.mem_of_getElem? (i := 956) (by decide +kernel), List.mem_of_getElem? (i := 1149) (by decide +kernel), List.mem_of_getElem? (i := 1150) (by decide +kernel)⟩
theorem lw_p59 : lw_okq (⟨"TemplateEngineModel", "holds", "(II)Z"⟩, 48) := ⟨⟨by decide +kernel, by decide +kernel⟩, List.mem_of_getElem? (i := 956) (by decide +kernel), List.mem_of_getElem? (i := 1153) (by decide +kernel), List.mem_of_getElem? (i := 1154) (by decide +kernel)⟩
theorem lw_p60 : lw_okq (⟨"TemplateEngineModel", "lineName", "()J"⟩, 48) := ⟨⟨by decide +kernel, by decide +kernel⟩, List.mem_of_getElem? (i := 956) (by decide +kernel), List.mem_of_getElem? (i := 1161) (by decide +kernel), List.mem_of_getElem? (i := 1162) (by decide +kernel)⟩
theorem lw_p61 : lw_okq (⟨"TemplateEngineModel", "letter", "(I)Z"⟩, 48) := ⟨⟨by decide +kernel, by decide +kernel⟩, List.mem_of_getElem? (i := 956) (by decide +kernel), List.mem_of_getElem? (i := 1165) (by decide +kernel), List.mem_of_getElem? (i := 1166) (by decide +kernel)⟩
theorem lw_p62 : lw_okq (⟨"TemplateEngineModel", "find", "(IJ)I"⟩, 48) := ⟨⟨by decide +kernel, by decide +kernel⟩, List.mem_of_getElem? (i := 956) (by decide +kernel), List.mem_of_getElem? (i := 1171) (by decide +kernel), List.mem_of_getElem? (i := 1172) (by decide +kernel)⟩
theorem lw_p63 : lw_okq (⟨"TemplateEngineModel", "takeApart", "()I"⟩, 48) := ⟨⟨by decide +kernel, by decide +kernel⟩, List.mem_of_getElem? (i := 956) (by decide +kernel), List.mem_of_getElem? (i := 1179) (by decide +kernel), List.mem_of_getElem? (i := 1180) (by decide +kernel)⟩
def lw_privs_4 : List (MethodName × Nat) := [(⟨"TemplateEngine$Value", "isFalse", "()Z"⟩, 7), (⟨"TemplateEngine$Text", "isLike", "(LTemplateEngine$Text;)Z"⟩, 2), (⟨"TemplateEngine$Renderer", "showEscaped", "(LTemplateEngine$Value;)V"⟩, 13), (⟨"TemplateEngine$Text", "appendEscaped", "(LTemplateEngine$Text;)V"⟩, 2), (⟨"TemplateEngine$Renderer", "renderPartial", "(II)V"⟩, 13), (⟨"TemplateEngine$Renderer", "renderBlock", "(LTemplateEngine$Part;I)V"⟩, 13), (⟨"TemplateEngine$Renderer", "renderEach", "(LTemplateEngine$Part;LTemplateEngine$Value;I)V"⟩, 13), (⟨"TemplateEngineModel", "refuse", "(I)I"⟩, 48), (⟨"TemplateEngineModel", "fine", "(I)I"⟩, 48), (⟨"TemplateEngineModel", "make", "(II)I"⟩, 48), (⟨"TemplateEngineModel", "no", "(I)Z"⟩, 48), (⟨"TemplateEngineModel", "holds", "(II)Z"⟩, 48), (⟨"TemplateEngineModel", "lineName", "()J"⟩, 48), (⟨"TemplateEngineModel", "letter", "(I)Z"⟩, 48), (⟨"TemplateEngineModel", "find", "(IJ)I"⟩, 48), (⟨"TemplateEngineModel", "takeApart", "()I"⟩, 48)]
theorem lw_r4 : ∀ q ∈ lw_privs_4, lw_okq q := List.forall_mem_cons.mpr ⟨lw_p48, List.forall_mem_cons.mpr ⟨lw_p49, List.forall_mem_cons.mpr ⟨lw_p50, List.forall_mem_cons.mpr ⟨lw_p51, List.forall_mem_cons.mpr ⟨lw_p52, List.forall_mem_cons.mpr ⟨lw_p53, List.forall_mem_cons.mpr ⟨lw_p54, List.forall_mem_cons.mpr ⟨lw_p55, List.forall_mem_cons.mpr ⟨lw_p56, List.forall_mem_cons.mpr ⟨lw_p57, List.forall_mem_cons.mpr ⟨lw_p58, List.forall_mem_cons.mpr ⟨lw_p59, List.forall_mem_cons.mpr ⟨lw_p60, List.forall_mem_cons.mpr ⟨lw_p61, List.forall_mem_cons.mpr ⟨lw_p62, List.forall_mem_cons.mpr ⟨lw_p63, fun _ h => absurd h List.not_mem_nil⟩⟩⟩⟩⟩⟩⟩⟩⟩⟩⟩⟩⟩⟩⟩⟩
theorem lw_p64 : lw_okq (⟨"TemplateEngineModel", "takeTag", "(III)I"⟩, 48) := ⟨⟨by decide +kernel, by decide +kernel⟩, List.mem_of_getElem? (i := 956) (by decide +kernel), List.mem_of_getElem? (i := 1183) (by decide +kernel), List.mem_of_getElem? (i := 1184) (by decide +kernel)⟩
theorem lw_p65 : lw_okq (⟨"TemplateEngineModel", "stands", "(IIJ)Z"⟩, 48) := ⟨⟨by decide +kernel, by decide +kernel⟩, List.mem_of_getElem? (i := 956) (by decide +kernel), List.mem_of_getElem? (i := 1188) (by decide +kernel), List.mem_of_getElem? (i := 1189) (by decide +kernel)⟩
theorem lw_p66 : lw_okq (⟨"TemplateEngineModel", "at0", "(II)I"⟩, 48) := ⟨⟨by decide +kernel, by decide +kernel⟩, List.mem_of_getElem? (i := 956) (by decide +kernel), List.mem_of_getElem? (i := 1193) (by decide +kernel), List.mem_of_getElem? (i := 1194) (by decide +kernel)⟩
theorem lw_p67 : lw_okq (⟨"TemplateEngineModel", "sortOf", "(IIZ)I"⟩, 48) := ⟨⟨by decide +kernel, by decide +kernel⟩, List.mem_of_getElem? (i := 956) (by decide +kernel), List.mem_of_getElem? (i := 1200) (by decide +kernel), List.mem_of_getElem? (i := 1201) (by decide +kernel)⟩
theorem lw_p68 : lw_okq (⟨"TemplateEngineModel", "isExpr", "(II)Z"⟩, 48) := ⟨⟨by decide +kernel, by decide +kernel⟩, List.mem_of_getElem? (i := 956) (by decide +kernel), List.mem_of_getElem? (i := 1204) (by decide +kernel), List.mem_of_getElem? (i := 1205) (by decide +kernel)⟩
theorem lw_p69 : lw_okq (⟨"TemplateEngineModel", "helper", "(II)I"⟩, 48) := ⟨⟨by decide +kernel, by decide +kernel⟩, List.mem_of_getElem? (i := 956) (by decide +kernel), List.mem_of_getElem? (i := 1208) (by decide +kernel), List.mem_of_getElem? (i := 1209) (by decide +kernel)⟩
theorem lw_p70 : lw_okq (⟨"TemplateEngineModel", "operandEnd", "(II)I"⟩, 48) := ⟨⟨by decide +kernel, by decide +kernel⟩, List.mem_of_getElem? (i := 956) (by decide +kernel), List.mem_of_getElem? (i := 1218) (by decide +kernel), List.mem_of_getElem? (i := 1219) (by decide +kernel)⟩
theorem lw_p71 : lw_okq (⟨"TemplateEngineModel", "digit", "(I)Z"⟩, 48) := ⟨⟨by decide +kernel, by decide +kernel⟩, List.mem_of_getElem? (i := 956) (by decide +kernel), List.mem_of_getElem? (i := 1222) (by decide +kernel), List.mem_of_getElem? (i := 1223) (by decide +kernel)⟩
theorem lw_p72 : lw_okq (⟨"TemplateEngineModel", "pathEnd", "(II)I"⟩, 48) := ⟨⟨by decide +kernel, by decide +kernel⟩, List.mem_of_getElem? (i := 956) (by decide +kernel), List.mem_of_getElem? (i := 1226) (by decide +kernel), List.mem_of_getElem? (i := 1227) (by decide +kernel)⟩
theorem lw_p73 : lw_okq (⟨"TemplateEngineModel", "letters", "(II)I"⟩, 48) := ⟨⟨by decide +kernel, by decide +kernel⟩, List.mem_of_getElem? (i := 956) (by decide +kernel), List.mem_of_getElem? (i := 1233) (by decide +kernel), List.mem_of_getElem? (i := 1234) (by decide +kernel)⟩
theorem lw_p74 : lw_okq (⟨"TemplateEngineModel", "nameSize", "(I)I"⟩, 48) := ⟨⟨by decide +kernel, by decide +kernel⟩, List.mem_of_getElem? (i := 956) (by decide +kernel), List.mem_of_getElem? (i := 1238) (by decide +kernel), List.mem_of_getElem? (i := 1239) (by decide +kernel)⟩
theorem lw_p75 : lw_okq (⟨"TemplateEngineModel", "fit", "(II)I"⟩, 48) := ⟨⟨by decide +kernel, by decide +kernel⟩, List.mem_of_getElem? (i := 956) (by decide +kernel), List.mem_of_getElem? (i := 1249) (by decide +kernel), List.mem_of_getElem? (i := 1250) (by decide +kernel)⟩
theorem lw_p76 : lw_okq (⟨"TemplateEngineModel", "moved", "(II)I"⟩, 48) := ⟨⟨by decide +kernel, by decide +kernel⟩, List.mem_of_getElem? (i := 956) (by decide +kernel), List.mem_of_getElem? (i := 1253) (by decide +kernel), List.mem_of_getElem? (i := 1254) (by decide +kernel)⟩
theorem lw_p77 : lw_okq (⟨"TemplateEngineModel", "load", "(II)V"⟩, 48) := ⟨⟨by decide +kernel, by decide +kernel⟩, List.mem_of_getElem? (i := 956) (by decide +kernel), List.mem_of_getElem? (i := 1265) (by decide +kernel), List.mem_of_getElem? (i := 1266) (by decide +kernel)⟩
theorem lw_p78 : lw_okq (⟨"TemplateEngineModel", "dataLetter", "(II)I"⟩, 48) := ⟨⟨by decide +kernel, by decide +kernel⟩, List.mem_of_getElem? (i := 956) (by decide +kernel), List.mem_of_getElem? (i := 1269) (by decide +kernel), List.mem_of_getElem? (i := 1270) (by decide +kernel)⟩
theorem lw_p79 : lw_okq (⟨"TemplateEngineModel", "go", "(I)V"⟩, 48) := ⟨⟨by decide +kernel, by decide +kernel⟩, List.mem_of_getElem? (i := 956) (by decide +kernel), List.mem_of_getElem? (i := 1273) (by decide +kernel), List.mem_of_getElem? (i := 1274) (by decide +kernel)⟩
def lw_privs_5 : List (MethodName × Nat) := [(⟨"TemplateEngineModel", "takeTag", "(III)I"⟩, 48), (⟨"TemplateEngineModel", "stands", "(IIJ)Z"⟩, 48), (⟨"TemplateEngineModel", "at0", "(II)I"⟩, 48), (⟨"TemplateEngineModel", "sortOf", "(IIZ)I"⟩, 48), (⟨"TemplateEngineModel", "isExpr", "(II)Z"⟩, 48), (⟨"TemplateEngineModel", "helper", "(II)I"⟩, 48), (⟨"TemplateEngineModel", "operandEnd", "(II)I"⟩, 48), (⟨"TemplateEngineModel", "digit", "(I)Z"⟩, 48), (⟨"TemplateEngineModel", "pathEnd", "(II)I"⟩, 48), (⟨"TemplateEngineModel", "letters", "(II)I"⟩, 48), (⟨"TemplateEngineModel", "nameSize", "(I)I"⟩, 48), (⟨"TemplateEngineModel", "fit", "(II)I"⟩, 48), (⟨"TemplateEngineModel", "moved", "(II)I"⟩, 48), (⟨"TemplateEngineModel", "load", "(II)V"⟩, 48), (⟨"TemplateEngineModel", "dataLetter", "(II)I"⟩, 48), (⟨"TemplateEngineModel", "go", "(I)V"⟩, 48)]
theorem lw_r5 : ∀ q ∈ lw_privs_5, lw_okq q := List.forall_mem_cons.mpr ⟨lw_p64, List.forall_mem_cons.mpr ⟨lw_p65, List.forall_mem_cons.mpr ⟨lw_p66, List.forall_mem_cons.mpr ⟨lw_p67, List.forall_mem_cons.mpr ⟨lw_p68, List.forall_mem_cons.mpr ⟨lw_p69, List.forall_mem_cons.mpr ⟨lw_p70, List.forall_mem_cons.mpr ⟨lw_p71, List.forall_mem_cons.mpr ⟨lw_p72, List.forall_mem_cons.mpr ⟨lw_p73, List.forall_mem_cons.mpr ⟨lw_p74, List.forall_mem_cons.mpr ⟨lw_p75, List.forall_mem_cons.mpr ⟨lw_p76, List.forall_mem_cons.mpr ⟨lw_p77, List.forall_mem_cons.mpr ⟨lw_p78, List.forall_mem_cons.mpr ⟨lw_p79, fun _ h => absurd h List.not_mem_nil⟩⟩⟩⟩⟩⟩⟩⟩⟩⟩⟩⟩⟩⟩⟩⟩
theorem lw_p80 : lw_okq (⟨"TemplateEngineModel", "here", "(I)I"⟩, 48) := ⟨⟨by decide +kernel, by decide +kernel⟩, List.mem_of_getElem? (i := 956) (by decide +kernel), List.mem_of_getElem? (i := 1277) (by decide +kernel), List.mem_of_getElem? (i := 1278) (by decide +kernel)⟩
theorem lw_p81 : lw_okq (⟨"TemplateEngineModel", "tagFrom", "(II)I"⟩, 48) := ⟨⟨by decide +kernel, by decide +kernel⟩, List.mem_of_getElem? (i := 956) (by decide +kernel), List.mem_of_getElem? (i := 1281) (by decide +kernel), List.mem_of_getElem? (i := 1282) (by decide +kernel)⟩
theorem lw_p82 : lw_okq (⟨"TemplateEngineModel", "emit", "(I)V"⟩, 48) := ⟨⟨by decide +kernel, by decide +kernel⟩, List.mem_of_getElem? (i := 956) (by decide +kernel), List.mem_of_getElem? (i := 1285) (by decide +kernel), List.mem_of_getElem? (i := 1286) (by decide +kernel)⟩
theorem lw_p83 : lw_okq (⟨"TemplateEngineModel", "tag", "(I)I"⟩, 48) := ⟨⟨by decide +kernel, by decide +kernel⟩, List.mem_of_getElem? (i := 956) (by decide +kernel), List.mem_of_getElem? (i := 1289) (by decide +kernel), List.mem_of_getElem? (i := 1290) (by decide +kernel)⟩
theorem lw_p84 : lw_okq (⟨"TemplateEngineModel", "ends", "(I)I"⟩, 48) := ⟨⟨by decide +kernel, by decide +kernel⟩, List.mem_of_getElem? (i := 956) (by decide +kernel), List.mem_of_getElem? (i := 1293) (by decide +kernel), List.mem_of_getElem? (i := 1294) (by decide +kernel)⟩
theorem lw_p85 : lw_okq (⟨"TemplateEngineModel", "nextTurn", "(I)Z"⟩, 48) := ⟨⟨by decide +kernel, by decide +kernel⟩, List.mem_of_getElem? (i := 956) (by decide +kernel), List.mem_of_getElem? (i := 1297) (by decide +kernel), List.mem_of_getElem? (i := 1298) (by decide +kernel)⟩
theorem lw_p86 : lw_okq (⟨"TemplateEngineModel", "block", "(I)I"⟩, 48) := ⟨⟨by decide +kernel, by decide +kernel⟩, List.mem_of_getElem? (i := 956) (by decide +kernel), List.mem_of_getElem? (i := 1301) (by decide +kernel), List.mem_of_getElem? (i := 1302) (by decide +kernel)⟩
theorem lw_p87 : lw_okq (⟨"TemplateEngineModel", "expr", "(II)V"⟩, 48) := ⟨⟨by decide +kernel, by decide +kernel⟩, List.mem_of_getElem? (i := 956) (by decide +kernel), List.mem_of_getElem? (i := 1305) (by decide +kernel), List.mem_of_getElem? (i := 1306) (by decide +kernel)⟩
theorem lw_p88 : lw_okq (⟨"TemplateEngineModel", "operand", "(III)V"⟩, 48) := ⟨⟨by decide +kernel, by decide +kernel⟩, List.mem_of_getElem? (i := 956) (by decide +kernel), List.mem_of_getElem? (i := 1309) (by decide +kernel), List.mem_of_getElem? (i := 1310) (by decide +kernel)⟩
theorem lw_p89 : lw_okq (⟨"TemplateEngineModel", "setNumber", "(II)V"⟩, 48) := ⟨⟨by decide +kernel, by decide +kernel⟩, List.mem_of_getElem? (i := 956) (by decide +kernel), List.mem_of_getElem? (i := 1313) (by decide +kernel), List.mem_of_getElem? (i := 1314) (by decide +kernel)⟩
theorem lw_p90 : lw_okq (⟨"TemplateEngineModel", "path", "(III)V"⟩, 48) := ⟨⟨by decide +kernel, by decide +kernel⟩, List.mem_of_getElem? (i := 956) (by decide +kernel), List.mem_of_getElem? (i := 1317) (by decide +kernel), List.mem_of_getElem? (i := 1318) (by decide +kernel)⟩
theorem lw_p91 : lw_okq (⟨"TemplateEngineModel", "loop", "()I"⟩, 48) := ⟨⟨by decide +kernel, by decide +kernel⟩, List.mem_of_getElem? (i := 956) (by decide +kernel), List.mem_of_getElem? (i := 1321) (by decide +kernel), List.mem_of_getElem? (i := 1322) (by decide +kernel)⟩
theorem lw_p92 : lw_okq (⟨"TemplateEngineModel", "nothing", "(I)V"⟩, 48) := ⟨⟨by decide +kernel, by decide +kernel⟩, List.mem_of_getElem? (i := 956) (by decide +kernel), List.mem_of_getElem? (i := 1325) (by decide +kernel), List.mem_of_getElem? (i := 1326) (by decide +kernel)⟩
theorem lw_p93 : lw_okq (⟨"TemplateEngineModel", "copy", "(II)V"⟩, 48) := ⟨⟨by decide +kernel, by decide +kernel⟩, List.mem_of_getElem? (i := 956) (by decide +kernel), List.mem_of_getElem? (i := 1329) (by decide +kernel), List.mem_of_getElem? (i := 1330) (by decide +kernel)⟩
theorem lw_p94 : lw_okq (⟨"TemplateEngineModel", "member", "(III)V"⟩, 48) := ⟨⟨by decide +kernel, by decide +kernel⟩, List.mem_of_getElem? (i := 956) (by decide +kernel), List.mem_of_getElem? (i := 1333) (by decide +kernel), List.mem_of_getElem? (i := 1334) (by decide +kernel)⟩
theorem lw_p95 : lw_okq (⟨"TemplateEngineModel", "element", "(II)V"⟩, 48) := ⟨⟨by decide +kernel, by decide +kernel⟩, List.mem_of_getElem? (i := 956) (by decide +kernel), List.mem_of_getElem? (i := 1337) (by decide +kernel), List.mem_of_getElem? (i := 1338) (by decide +kernel)⟩
def lw_privs_6 : List (MethodName × Nat) := [(⟨"TemplateEngineModel", "here", "(I)I"⟩, 48), (⟨"TemplateEngineModel", "tagFrom", "(II)I"⟩, 48), (⟨"TemplateEngineModel", "emit", "(I)V"⟩, 48), (⟨"TemplateEngineModel", "tag", "(I)I"⟩, 48), (⟨"TemplateEngineModel", "ends", "(I)I"⟩, 48), (⟨"TemplateEngineModel", "nextTurn", "(I)Z"⟩, 48), (⟨"TemplateEngineModel", "block", "(I)I"⟩, 48), (⟨"TemplateEngineModel", "expr", "(II)V"⟩, 48), (⟨"TemplateEngineModel", "operand", "(III)V"⟩, 48), (⟨"TemplateEngineModel", "setNumber", "(II)V"⟩, 48), (⟨"TemplateEngineModel", "path", "(III)V"⟩, 48), (⟨"TemplateEngineModel", "loop", "()I"⟩, 48), (⟨"TemplateEngineModel", "nothing", "(I)V"⟩, 48), (⟨"TemplateEngineModel", "copy", "(II)V"⟩, 48), (⟨"TemplateEngineModel", "member", "(III)V"⟩, 48), (⟨"TemplateEngineModel", "element", "(II)V"⟩, 48)]
theorem lw_r6 : ∀ q ∈ lw_privs_6, lw_okq q := List.forall_mem_cons.mpr ⟨lw_p80, List.forall_mem_cons.mpr ⟨lw_p81, List.forall_mem_cons.mpr ⟨lw_p82, List.forall_mem_cons.mpr ⟨lw_p83, List.forall_mem_cons.mpr ⟨lw_p84, List.forall_mem_cons.mpr ⟨lw_p85, List.forall_mem_cons.mpr ⟨lw_p86, List.forall_mem_cons.mpr ⟨lw_p87, List.forall_mem_cons.mpr ⟨lw_p88, List.forall_mem_cons.mpr ⟨lw_p89, List.forall_mem_cons.mpr ⟨lw_p90, List.forall_mem_cons.mpr ⟨lw_p91, List.forall_mem_cons.mpr ⟨lw_p92, List.forall_mem_cons.mpr ⟨lw_p93, List.forall_mem_cons.mpr ⟨lw_p94, List.forall_mem_cons.mpr ⟨lw_p95, fun _ h => absurd h List.not_mem_nil⟩⟩⟩⟩⟩⟩⟩⟩⟩⟩⟩⟩⟩⟩⟩⟩
theorem lw_p96 : lw_okq (⟨"TemplateEngineModel", "upper", "()V"⟩, 48) := ⟨⟨by decide +kernel, by decide +kernel⟩, List.mem_of_getElem? (i := 956) (by decide +kernel), List.mem_of_getElem? (i := 1341) (by decide +kernel), List.mem_of_getElem? (i := 1342) (by decide +kernel)⟩
theorem lw_p97 : lw_okq (⟨"TemplateEngineModel", "showRaw", "(I)V"⟩, 48) := ⟨⟨by decide +kernel, by decide +kernel⟩, List.mem_of_getElem? (i := 956) (by decide +kernel), List.mem_of_getElem? (i := 1345) (by decide +kernel), List.mem_of_getElem? (i := 1346) (by decide +kernel)⟩
theorem lw_p98 : lw_okq (⟨"TemplateEngineModel", "rawNumber", "(I)V"⟩, 48) := ⟨⟨by decide +kernel, by decide +kernel⟩, List.mem_of_getElem? (i := 956) (by decide +kernel), List.mem_of_getElem? (i := 1349) (by decide +kernel), List.mem_of_getElem? (i := 1350) (by decide +kernel)⟩
theorem lw_p99 : lw_okq (⟨"TemplateEngineModel", "rawPut", "(I)V"⟩, 48) := ⟨⟨by decide +kernel, by decide +kernel⟩, List.mem_of_getElem? (i := 956) (by decide +kernel), List.mem_of_getElem? (i := 1353) (by decide +kernel), List.mem_of_getElem? (i := 1354) (by decide +kernel)⟩
theorem lw_p100 : lw_okq (⟨"TemplateEngineModel", "rawData", "(I)V"⟩, 48) := ⟨⟨by decide +kernel, by decide +kernel⟩, List.mem_of_getElem? (i := 956) (by decide +kernel), List.mem_of_getElem? (i := 1360) (by decide +kernel), List.mem_of_getElem? (i := 1361) (by decide +kernel)⟩
theorem lw_p101 : lw_okq (⟨"TemplateEngineModel", "rawMap", "()V"⟩, 48) := ⟨⟨by decide +kernel, by decide +kernel⟩, List.mem_of_getElem? (i := 956) (by decide +kernel), List.mem_of_getElem? (i := 1364) (by decide +kernel), List.mem_of_getElem? (i := 1365) (by decide +kernel)⟩
theorem lw_p102 : lw_okq (⟨"TemplateEngineModel", "lengthOf", "(I)I"⟩, 48) := ⟨⟨by decide +kernel, by decide +kernel⟩, List.mem_of_getElem? (i := 956) (by decide +kernel), List.mem_of_getElem? (i := 1368) (by decide +kernel), List.mem_of_getElem? (i := 1369) (by decide +kernel)⟩
theorem lw_p103 : lw_okq (⟨"TemplateEngineModel", "isFalse", "(I)Z"⟩, 48) := ⟨⟨by decide +kernel, by decide +kernel⟩, List.mem_of_getElem? (i := 956) (by decide +kernel), List.mem_of_getElem? (i := 1372) (by decide +kernel), List.mem_of_getElem? (i := 1373) (by decide +kernel)⟩
theorem lw_p104 : lw_okq (⟨"TemplateEngineModel", "alike", "()Z"⟩, 48) := ⟨⟨by decide +kernel, by decide +kernel⟩, List.mem_of_getElem? (i := 956) (by decide +kernel), List.mem_of_getElem? (i := 1376) (by decide +kernel), List.mem_of_getElem? (i := 1377) (by decide +kernel)⟩
theorem lw_p105 : lw_okq (⟨"TemplateEngineModel", "push", "(IIZZ)V"⟩, 48) := ⟨⟨by decide +kernel, by decide +kernel⟩, List.mem_of_getElem? (i := 956) (by decide +kernel), List.mem_of_getElem? (i := 1380) (by decide +kernel), List.mem_of_getElem? (i := 1381) (by decide +kernel)⟩
theorem lw_p106 : lw_okq (⟨"TemplateEngineModel", "underTemplates", "()I"⟩, 48) := ⟨⟨by decide +kernel, by decide +kernel⟩, List.mem_of_getElem? (i := 956) (by decide +kernel), List.mem_of_getElem? (i := 1384) (by decide +kernel), List.mem_of_getElem? (i := 1385) (by decide +kernel)⟩
theorem lw_p107 : lw_okq (⟨"TemplateEngineModel", "partial", "(II)I"⟩, 48) := ⟨⟨by decide +kernel, by decide +kernel⟩, List.mem_of_getElem? (i := 956) (by decide +kernel), List.mem_of_getElem? (i := 1388) (by decide +kernel), List.mem_of_getElem? (i := 1389) (by decide +kernel)⟩
theorem lw_p108 : lw_okq (⟨"TemplateEngineModel", "show", "(Z)V"⟩, 48) := ⟨⟨by decide +kernel, by decide +kernel⟩, List.mem_of_getElem? (i := 956) (by decide +kernel), List.mem_of_getElem? (i := 1392) (by decide +kernel), List.mem_of_getElem? (i := 1393) (by decide +kernel)⟩
theorem lw_p109 : lw_okq (⟨"TemplateEngineModel", "emitWord", "(J)V"⟩, 48) := ⟨⟨by decide +kernel, by decide +kernel⟩, List.mem_of_getElem? (i := 956) (by decide +kernel), List.mem_of_getElem? (i := 1400) (by decide +kernel), List.mem_of_getElem? (i := 1401) (by decide +kernel)⟩
def lw_privs_7 : List (MethodName × Nat) := [(⟨"TemplateEngineModel", "upper", "()V"⟩, 48), (⟨"TemplateEngineModel", "showRaw", "(I)V"⟩, 48), (⟨"TemplateEngineModel", "rawNumber", "(I)V"⟩, 48), (⟨"TemplateEngineModel", "rawPut", "(I)V"⟩, 48), (⟨"TemplateEngineModel", "rawData", "(I)V"⟩, 48), (⟨"TemplateEngineModel", "rawMap", "()V"⟩, 48), (⟨"TemplateEngineModel", "lengthOf", "(I)I"⟩, 48), (⟨"TemplateEngineModel", "isFalse", "(I)Z"⟩, 48), (⟨"TemplateEngineModel", "alike", "()Z"⟩, 48), (⟨"TemplateEngineModel", "push", "(IIZZ)V"⟩, 48), (⟨"TemplateEngineModel", "underTemplates", "()I"⟩, 48), (⟨"TemplateEngineModel", "partial", "(II)I"⟩, 48), (⟨"TemplateEngineModel", "show", "(Z)V"⟩, 48), (⟨"TemplateEngineModel", "emitWord", "(J)V"⟩, 48)]
theorem lw_r7 : ∀ q ∈ lw_privs_7, lw_okq q := List.forall_mem_cons.mpr ⟨lw_p96, List.forall_mem_cons.mpr ⟨lw_p97, List.forall_mem_cons.mpr ⟨lw_p98, List.forall_mem_cons.mpr ⟨lw_p99, List.forall_mem_cons.mpr ⟨lw_p100, List.forall_mem_cons.mpr ⟨lw_p101, List.forall_mem_cons.mpr ⟨lw_p102, List.forall_mem_cons.mpr ⟨lw_p103, List.forall_mem_cons.mpr ⟨lw_p104, List.forall_mem_cons.mpr ⟨lw_p105, List.forall_mem_cons.mpr ⟨lw_p106, List.forall_mem_cons.mpr ⟨lw_p107, List.forall_mem_cons.mpr ⟨lw_p108, List.forall_mem_cons.mpr ⟨lw_p109, fun _ h => absurd h List.not_mem_nil⟩⟩⟩⟩⟩⟩⟩⟩⟩⟩⟩⟩⟩⟩
def lw_privs : List (MethodName × Nat) := lw_privs_1 ++ (lw_privs_2 ++ (lw_privs_3 ++ (lw_privs_4 ++ (lw_privs_5 ++ (lw_privs_6 ++ (lw_privs_7))))))
def lw_tbl : List Cond := k2_sels lw_privs ++ tables_1
theorem lw_privs_ok : ∀ q ∈ lw_privs, lw_okq q := by
  show ∀ q ∈ lw_privs_1 ++ (lw_privs_2 ++ (lw_privs_3 ++ (lw_privs_4 ++ (lw_privs_5 ++ (lw_privs_6 ++ (lw_privs_7)))))), lw_okq q
  exact List.forall_mem_append.mpr ⟨lw_r1, List.forall_mem_append.mpr ⟨lw_r2, List.forall_mem_append.mpr ⟨lw_r3, List.forall_mem_append.mpr ⟨lw_r4, List.forall_mem_append.mpr ⟨lw_r5, List.forall_mem_append.mpr ⟨lw_r6, lw_r7⟩⟩⟩⟩⟩⟩
end
section
/-! ===== BEGIN words of one list among another's, by their places ===== -/
theorem goodIn_r {big : List Cond} (ws : List Cond) (ps : List Nat) (hp : ws = ps.filterMap (fun i => big[i]?)) (h : ws.all goodWord = true) : GoodIn big ws := by
  intro w hw
  have h1 := List.all_eq_true.mp h w hw
  rw [hp] at hw
  obtain ⟨i, -, hi⟩ := List.mem_filterMap.mp hw
  have hm : w ∈ big := by first | exact List.mem_of_getElem? hi | exact List.getElem?_mem hi
  exact ⟨hm, good_of_word h1⟩
theorem goodIn_app {big a b : List Cond} (ha : GoodIn big a) (hb : GoodIn big b) : GoodIn big (a ++ b) := fun w h => (List.mem_append.mp h).elim (ha w) (hb w)
theorem goodIn_ca {big a b : List Cond} {c : Cond} (ha : GoodIn big (c :: a)) (hb : GoodIn big b) : GoodIn big (c :: (a ++ b)) := fun w h => (List.mem_cons.mp h).elim (fun e => ha w (List.mem_cons.mpr (Or.inl e))) (fun h => (List.mem_append.mp h).elim (fun h => ha w (List.mem_cons.mpr (Or.inr h))) (hb w))
theorem goodIn_sub {big ws : List Cond} (hm : ∀ w ∈ ws, w ∈ big) (h : ws.all goodWord = true) : GoodIn big ws := fun w hw => ⟨hm w hw, good_of_word (List.all_eq_true.mp h w hw)⟩
/-! ===== END ===== -/

/-! ===== BEGIN exceptions that leave a method, and their catching by the caller (launches without stack traces) ===== -/
section VXA
/-! The laws vx_back, vx_callV, vx_callS, vx_callSW, vx_throw0, vx_throwS follow proofs of the library, with one case more: JvmDerived/Free/Laws.lean (Back.of_free), Shelf42/LK1.lean (callV, callS), Shelf/KitTraced.lean (throwNew0V, throwNewS). -/
/-- where a method has thrown q: the class by its name, the cell, what was written, the world -/
def vx_T (XC : String → State → State → Prop) (st : State) (q : Addr) (t : State) (mc ms : Nat) (free : Addr → Prop) : Prop :=
  ∃ (E : String) (ce : Cell) (L : List Loc), XC E st t ∧ t.heap[q]? = some ce ∧ ce.vm = .none ∧ st.vm.findClass E = some ce.cls ∧ st.WarmedH t.vm ∧ st.sameButNew ({ t with vm := st.vm } : State) L mc ms ∧ ∀ z ∈ L, free z.base
def vx_Q (Qc : Array Value → State → Outcome → State → Prop) (XC : String → State → State → Prop) (mc ms : Nat) (free : Addr → Prop) : Array Value → State → Outcome → State → Prop := fun a st o t =>
  (Qc a st o t ∧ ∃ L, FrameEnd st o t L mc ms ∧ ∀ q ∈ L, free q.base) ∨ ∃ q, o = .threw q ∧ vx_T XC st q t mc ms free
/-- a callee that returns or throws -/
def vx_Met (l : Launch) (y : MethodName) (ws : List Cond) (rm : Room) (Pc : Array Value → State → Prop) (Qc : Array Value → State → Outcome → State → Prop) (XC : String → State → State → Prop) (mc ms : Nat) (free : Addr → Prop) : Prop :=
  MetFree l y (headSpec ws rm) Pc (fun _ _ _ _ _ => True) (vx_Q Qc XC mc ms free)
def vx_Post (XC : String → State → State → Prop) (mc ms : Nat) (free : Addr → Prop) : Pt → Array Value → Addr → Pt → Prop := fun A a q B =>
  ∃ (g : JFrame) (mk : MethodId) (t : State) (L : List Loc) (E : String) (ce : Cell), B.U.heap = t.heap ∧ B.U.vm = t.vm ∧ XC E (A.U.calling g mk a) t ∧ t.heap[q]? = some ce ∧ ce.vm = .none ∧ A.U.vm.findClass E = some ce.cls ∧ B.locs = A.locs ++ L ∧ (∀ z ∈ L, free z.base) ∧ B.cells = A.cells + mc ∧ B.slots = A.slots + ms
def vx_Back (l : Launch) (R : Room) (p : Program) (e : Env) (below : List Frame) (s : State) (sargs : Array Value) (y : MethodName) (len W9 : Nat)
    (Pre : Pt → Array Value → Prop) (Post : Pt → Array Value → Option Value → Pt → Prop) (PostX : Pt → Array Value → Addr → Pt → Prop) : Prop :=
  ∀ (m : MethodId) (meth : Method) (c : Code) (A : Pt) (g : JFrame) (ig : Instr) (mk : MethodId) (a : Array Value),
    Stand p l e R s m sargs below meth c A.U A.locs A.cells A.slots → g.method = m → g.locals.size = c.maxLocals → decode c.code g.pc = .ok (ig, len) →
    2 * g.monitorRoom + (g.stack.map fun v => v.category).sum ≤ W9 → A.U.methodNamed? y = some mk → Pre A a →
    (∃ (v : Option Value) (B : Pt), Stand p l e R s m sargs below meth c B.U B.locs B.cells B.slots ∧ Post A a v B ∧
      Steps p.tables e below (doInvoke e (A.U.setTop g) [] mk a).1 (B.U.setTop { g with pc := g.pc + len, stack := v.toList ++ g.stack })) ∨
    (∃ (q : Addr) (B : Pt), Stand p l e R s m sargs below meth c B.U B.locs B.cells B.slots ∧ PostX A a q B ∧
      Steps p.tables e below (doInvoke e (A.U.setTop g) [] mk a).1 ((B.U.setTop g).pushFrame (.throwing q)))
section Payer
variable {l : Launch} {R : Room} {p : Program} {e : Env} {below : List Frame} {s : State} {sargs : Array Value} {y : MethodName} {len W9 : Nat}
theorem vx_back {ws : List Cond} {rm : Room} {Pc : Array Value → State → Prop} {Qc : Array Value → State → Outcome → State → Prop} {XC : String → State → State → Prop} {mc ms : Nat} {free : Addr → Prop} {bytes : ByteArray} {maxL : Nat} {ret : Option FieldType}
    (hM : vx_Met l y ws rm Pc Qc XC mc ms free) (hblind : FrameBlind Pc) (hrc : rm.cells = mc) (hrs : rm.slots = ms)
    (hframes : rm.frames + 1 ≤ R.frames) (hlocals : W9 + (maxL + 11) + rm.locals ≤ R.locals)
    (hws : ∀ w ∈ ws, ∀ a' U, s.WarmedH U.vm → w.before a' U = true) (hcode : Cond.code y bytes maxL ret ∈ ws) (hinit : ∀ a' U, s.WarmedH U.vm → (Cond.initialized y.cls).before a' U = true) :
    vx_Back l R p e below s sargs y len W9 (PreOf R mc ms Pc) (PostOf Qc mc ms free) (vx_Post XC mc ms free) := by
  intro m meth c A g ig mk a X hg hsize hdg hW hn hp
  have h1 : (headSpec ws rm).pre.before a A.U = true := atoms_intro fun w hw => hws w hw _ _ X.warmed
  have h2 : (Cond.code y bytes maxL ret).before a A.U = true := hws _ hcode _ _ X.warmed
  have h3 : (Cond.initialized y.cls).before a A.U = true := hinit _ _ X.warmed
  have h4 : A.cells + (headSpec ws rm).room.cells ≤ R.cells := by rw [show (headSpec ws rm).room.cells = mc from hrc]; exact hp.1
  have h5 : A.slots + (headSpec ws rm).room.slots ≤ R.slots := by rw [show (headSpec ws rm).room.slots = ms from hrs]; exact hp.2.1
  have hPc : Pc a (A.U.calling g mk a) := hblind _ _ _ _ hp.2.2
  obtain ⟨U, Ls, c0, s0⟩ := A
  dsimp only [Pt.U, Pt.locs, Pt.cells, Pt.slots] at h1 h2 h3 h4 h5 X hn hPc ⊢
  obtain ⟨methY, cY, hmY, hcY, -, hlY, -, -, -, -⟩ := Cond.code_spec hn h2
  obtain ⟨kY, hkY, -⟩ := className_of_methodNamed hn
  have hinitY : kY.init = .initialized := Cond.initialized_spec (findClass_of_methodNamed hn) hkY h3
  have h : At U g.method c below := by rw [hg]; exact X.here
  have hlocals9 : W9 + (maxL + 11) + (headSpec ws rm).room.locals ≤ R.locals := hlocals
  have happ : (headSpec ws rm).appliesLoose y e.platform (U.calling g mk a) = true :=
    Spec.appliesLoose_calling (g := g) h hdg hn hkY hinitY
      (X.room_calling (g := g) (R' := (headSpec ws rm).room) hsize hmY hcY hframes (by rw [hlY]; omega) h4 h5) h1
  obtain ⟨mid, hmid⟩ := h.above
  have hfr : (U.setTop g).frames = (.java g :: mid) ++ below := by rw [State.frames_setTop' g h.top, hmid]; rfl
  obtain ⟨o, s₂, hsteps, -, hend, hq⟩ := Steps.callFree hM p X.admits X.cas X.clock (acts := []) hfr happ hPc trivial
  have hq' : vx_Q Qc XC mc ms free a (U.calling g mk a) o s₂ := hq
  rw [State.frames_setTop' g h.top] at hend
  obtain ⟨g₀, hg0⟩ := Option.isSome_iff_exists.mp h.top
  obtain ⟨r, hr⟩ := State.topJava?_eq_some.mp hg0
  have hr' : (({ U with heap := s₂.heap, slotsUsed := s₂.slotsUsed } : State).setVm s₂.vm).frames = .java g₀ :: r := hr
  rcases hq' with ⟨hqc, L, hfe, hL⟩ | ⟨q, rfl, E, ce, L, hx, hce, hcv, hcl, hW₂, hsm, hL⟩
  · obtain ⟨⟨v, rfl⟩, hW₂, e2, q2, q3, q4, q5, q6⟩ := id hfe
    have e3 : s₂ = ({ (U.calling g mk a).setFrames s₂.frames with heap := s₂.heap, slotsUsed := s₂.slotsUsed } : State).setVm s₂.vm := by
      have : s₂ = ({ s₂ with vm := (U.calling g mk a).vm } : State).setVm s₂.vm := rfl
      rw [e2] at this
      exact this
    obtain ⟨c₂, i₂, len₂, hc₂, hd₂, hf₂⟩ := hend
    have hW' : U.WarmedH s₂.vm := hW₂
    have hcc : c₂ = c := by
      have h1 : s₂.code? g.method = U.code? g.method := by
        rw [State.code?_eq, State.code?_eq, hW'.alike.method?]
      exact Option.some.inj (hc₂.symm.trans (h1.trans h.code))
    subst hcc
    have hlen : len₂ = len := by rw [hdg] at hd₂; cases hd₂; rfl
    subst hlen
    have hs₂ : s₂ = (({ U with heap := s₂.heap, slotsUsed := s₂.slotsUsed } : State).setVm s₂.vm).setTop { g with pc := g.pc + len₂, stack := v.toList ++ g.stack } := by
      refine e3.trans ?_
      rw [hf₂, State.calling_eq h.top, State.setFrames_setFrames, State.setTop_of_frames _ hr', hr]
      rfl
    have hsame : U.sameButNew ({ U with heap := s₂.heap, slotsUsed := s₂.slotsUsed } : State) L mc ms := by
      refine ⟨?_, q2, q3, q4, q5, q6⟩
      obtain ⟨t, ht, -⟩ := State.frames_cons hr
      show ({ U with heap := s₂.heap, slotsUsed := s₂.slotsUsed } : State) = { U.setFrames U.frames with heap := s₂.heap, slotsUsed := s₂.slotsUsed }
      rw [State.setFrames_self ht]
    subst hg
    refine Or.inl ⟨v, ⟨(({ U with heap := s₂.heap, slotsUsed := s₂.slotsUsed } : State).setVm s₂.vm), Ls ++ L, c0 + mc, s0 + ms⟩,
      ⟨X.admits, X.cas, X.clock, X.frames, X.room, X.hears, X.method, X.code, (X.here.setHeapUsed s₂.heap s₂.slotsUsed).setVm hW'.alike, X.tail, State.WarmedH.trans X.warmed hW', X.limits, X.bytes, X.same.trans (hsame.setVm s.vm)⟩,
      ⟨g, mk, s₂, L, rfl, rfl, hqc, rfl, hL, rfl, rfl⟩, ?_⟩
    show Steps p.tables e below _ ((({ U with heap := s₂.heap, slotsUsed := s₂.slotsUsed } : State).setVm s₂.vm).setTop { g with pc := g.pc + len₂, stack := v.toList ++ g.stack })
    rw [← hs₂]
    exact hsteps
  · obtain ⟨e2, q2, q3, q4, q5, q6⟩ := id hsm
    have e3 : s₂ = ({ (U.calling g mk a).setFrames s₂.frames with heap := s₂.heap, slotsUsed := s₂.slotsUsed } : State).setVm s₂.vm := by
      have : s₂ = ({ s₂ with vm := (U.calling g mk a).vm } : State).setVm s₂.vm := rfl
      rw [e2] at this
      exact this
    have hf₂ : s₂.frames = .throwing q :: .java g :: U.frames.tail := hend
    have hW' : U.WarmedH s₂.vm := hW₂
    have hs₂ : s₂ = ((({ U with heap := s₂.heap, slotsUsed := s₂.slotsUsed } : State).setVm s₂.vm).setTop g).pushFrame (.throwing q) := by
      refine e3.trans ?_
      rw [hf₂, State.calling_eq h.top, State.setFrames_setFrames, State.pushFrame, State.frames_setTop _ hr', State.setTop_of_frames _ hr', State.setFrames_setFrames, hr]
      rfl
    have hsame : U.sameButNew ({ U with heap := s₂.heap, slotsUsed := s₂.slotsUsed } : State) L mc ms := by
      refine ⟨?_, q2, q3, q4, q5, q6⟩
      obtain ⟨t, ht, -⟩ := State.frames_cons hr
      show ({ U with heap := s₂.heap, slotsUsed := s₂.slotsUsed } : State) = { U.setFrames U.frames with heap := s₂.heap, slotsUsed := s₂.slotsUsed }
      rw [State.setFrames_self ht]
    subst hg
    refine Or.inr ⟨q, ⟨(({ U with heap := s₂.heap, slotsUsed := s₂.slotsUsed } : State).setVm s₂.vm), Ls ++ L, c0 + mc, s0 + ms⟩,
      ⟨X.admits, X.cas, X.clock, X.frames, X.room, X.hears, X.method, X.code, (X.here.setHeapUsed s₂.heap s₂.slotsUsed).setVm hW'.alike, X.tail, State.WarmedH.trans X.warmed hW', X.limits, X.bytes, X.same.trans (hsame.setVm s.vm)⟩,
      ⟨g, mk, s₂, L, E, ce, rfl, rfl, hx, hce, hcv, hcl, rfl, hL, rfl, rfl⟩, ?_⟩
    show Steps p.tables e below _ (((({ U with heap := s₂.heap, slotsUsed := s₂.slotsUsed } : State).setVm s₂.vm).setTop g).pushFrame (.throwing q))
    rw [← hs₂]
    exact hsteps
end Payer
section Calls
variable {p : Program} {l : Launch} {e : Env} {R : Room} {s : State} {m : MethodId} {args : Array Value} {below : List Frame} {meth : Method} {c : Code} {T : State} {locs : List Loc} {cells slots : Nat}
theorem vx_callV (X : Stand p l e R s m args below meth c T locs cells slots) (hexec : p.tables.exec = Jvm.exec) {own C : String} {index : Nat} {y : MethodName} {bytes : ByteArray} {maxL : Nat} {ret : Option FieldType}
    (hown : s.vm.findClass own = some m.cls) (hlink : (Cond.methodLink own index y).before args s = true) (hinst : (Cond.instanceMethod y).before args s = true) (hsel : (Cond.selects C y y).before args s = true)
    (hcode : (Cond.code y bytes maxL ret).before args s = true) (hy : y.cls ≠ "java/lang/invoke/MethodHandle" ∧ y.cls ≠ "java/lang/invoke/VarHandle")
    {W9 : Nat} {Pre : Pt → Array Value → Prop} {Post : Pt → Array Value → Option Value → Pt → Prop} {PostX : Pt → Array Value → Addr → Pt → Prop} (hK : vx_Back l R p e below s args y 3 W9 Pre Post PostX)
    {b : Addr} {cellB : Cell} (hcell : T.heap[b]? = some cellB) (hobj : cellB.vm.isStatics = false) (hcls : s.vm.findClass C = some cellB.cls)
    {g : JFrame} (hg : g.method = m) (hsize : g.locals.size = c.maxLocals) {argsL rest : List Value} (hlen : ∀ sig, parseMethodDescriptor y.desc = some sig → argsL.length = sig.parameters.length)
    (hstack : g.stack = argsL.reverse ++ .ref b :: rest) (hW : 2 * g.monitorRoom + (rest.map fun v => v.category).sum ≤ W9) (hdg : decode c.code g.pc = .ok (.invokevirtual index, 3))
    (hpre : ∀ vm₁, s.WarmedH vm₁ → Pre ⟨T.setVm vm₁, locs, cells, slots⟩ (Value.ref b :: argsL).toArray) :
    (∃ (v : Option Value) (vm₁ : Vm) (B : Pt), s.WarmedH vm₁ ∧ Stand p l e R s m args below meth c B.U B.locs B.cells B.slots ∧ Post ⟨T.setVm vm₁, locs, cells, slots⟩ (Value.ref b :: argsL).toArray v B ∧
      ∀ target, Steps p.tables e below (B.U.setTop { g with pc := g.pc + 3, stack := v.toList ++ rest }) target → Steps p.tables e below (T.setTop g) target) ∨
    (∃ (q : Addr) (vm₁ : Vm) (B : Pt), s.WarmedH vm₁ ∧ Stand p l e R s m args below meth c B.U B.locs B.cells B.slots ∧ PostX ⟨T.setVm vm₁, locs, cells, slots⟩ (Value.ref b :: argsL).toArray q B ∧
      Steps p.tables e below (T.setTop g) ((B.U.setTop { g with stack := rest }).pushFrame (.throwing q))) := by
  obtain ⟨mk, methM, hnamed, hmethM, hstM, habM⟩ := Cond.instanceMethod_spec hinst
  obtain ⟨methM', cM, hmethM', -, -, -, -, -, -, hsigM⟩ := Cond.code_spec hnamed hcode
  cases hmethM.symm.trans hmethM'
  obtain ⟨c2, r2, m2, q1, q2, q3, q4, kP, hkP, hkPi⟩ := Cond.selects_spec hsel
  cases hcls.symm.trans q1
  cases (State.methodFound?_of_named hnamed hy).symm.trans q2
  cases hnamed.symm.trans q3
  have hselP : selectMethod e.platform s.vm cellB.cls mk = .method mk := by rw [Launch.admits_selectMethod X.admits]; exact q4
  obtain ⟨vm₁, X₁, hstep₁⟩ := X.invokevirtual hexec hown hlink hnamed hmethM hstM hkP hkPi hy (a := b) (cell := cellB) hcell
    (fun z h => by rw [h] at hobj; cases hobj) hselP hmethM habM hkP hkPi (g := g) hg (argsL := argsL) (rest := rest) (hlen _ hsigM) hstack hdg
  rcases hK m meth c ⟨T.setVm vm₁, locs, cells, slots⟩ { g with stack := rest } (.invokevirtual index) mk (Value.ref b :: argsL).toArray X₁ hg hsize hdg hW (X₁.named hnamed) (hpre vm₁ X₁.warmed) with ⟨v, B, X', hpost, hsteps⟩ | ⟨q, B, X', hpost, hsteps⟩
  · exact Or.inl ⟨v, vm₁, B, X₁.warmed, X', hpost, fun target h => hstep₁ _ fun acts => by rw [doInvoke_state]; exact hsteps.trans h⟩
  · exact Or.inr ⟨q, vm₁, B, X₁.warmed, X', hpost, hstep₁ _ fun acts => by rw [doInvoke_state]; exact hsteps⟩
theorem vx_callS (X : Stand p l e R s m args below meth c T locs cells slots) (hexec : p.tables.exec = Jvm.exec) {own : String} {index : Nat} {y : MethodName} {bytes : ByteArray} {maxL : Nat} {ret : Option FieldType}
    (hown : s.vm.findClass own = some m.cls) (hlink : (Cond.methodLink own index y).before args s = true) (hstat : (Cond.static y).before args s = true) (hinit : (Cond.initialized y.cls).before args s = true)
    (hcode : (Cond.code y bytes maxL ret).before args s = true) (hy : y.cls ≠ "java/lang/invoke/MethodHandle" ∧ y.cls ≠ "java/lang/invoke/VarHandle")
    {W9 : Nat} {Pre : Pt → Array Value → Prop} {Post : Pt → Array Value → Option Value → Pt → Prop} {PostX : Pt → Array Value → Addr → Pt → Prop} (hK : vx_Back l R p e below s args y 3 W9 Pre Post PostX)
    {g : JFrame} (hg : g.method = m) (hsize : g.locals.size = c.maxLocals) {argsL rest : List Value} (hlen : ∀ sig, parseMethodDescriptor y.desc = some sig → argsL.length = sig.parameters.length)
    (hstack : g.stack = argsL.reverse ++ rest) (hW : 2 * g.monitorRoom + (rest.map fun v => v.category).sum ≤ W9) (hdg : decode c.code g.pc = .ok (.invokestatic index, 3))
    (hpre : ∀ vm₁, s.WarmedH vm₁ → Pre ⟨T.setVm vm₁, locs, cells, slots⟩ argsL.toArray) :
    (∃ (v : Option Value) (vm₁ : Vm) (B : Pt), s.WarmedH vm₁ ∧ Stand p l e R s m args below meth c B.U B.locs B.cells B.slots ∧ Post ⟨T.setVm vm₁, locs, cells, slots⟩ argsL.toArray v B ∧
      ∀ target, Steps p.tables e below (B.U.setTop { g with pc := g.pc + 3, stack := v.toList ++ rest }) target → Steps p.tables e below (T.setTop g) target) ∨
    (∃ (q : Addr) (vm₁ : Vm) (B : Pt), s.WarmedH vm₁ ∧ Stand p l e R s m args below meth c B.U B.locs B.cells B.slots ∧ PostX ⟨T.setVm vm₁, locs, cells, slots⟩ argsL.toArray q B ∧
      Steps p.tables e below (T.setTop g) ((B.U.setTop { g with stack := rest }).pushFrame (.throwing q))) := by
  obtain ⟨mk, hnamed⟩ := Cond.code_named hcode
  obtain ⟨methM, cM, hmethM, -, -, -, -, -, -, hsigM⟩ := Cond.code_spec hnamed hcode
  have hstatic : methM.isStatic = true := Cond.static_spec hnamed hmethM hstat
  obtain ⟨kP, hkP, -⟩ := className_of_methodNamed hnamed
  have hinitP : kP.init = .initialized := Cond.initialized_spec (findClass_of_methodNamed hnamed) hkP hinit
  obtain ⟨vm₁, X₁, hstep₁⟩ := X.invokestatic hexec hown hlink hnamed hmethM hstatic hkP hinitP hy (g := g) hg (argsL := argsL) (rest := rest) (hlen _ hsigM) hstack hdg
  rcases hK m meth c ⟨T.setVm vm₁, locs, cells, slots⟩ { g with stack := rest } (.invokestatic index) mk argsL.toArray X₁ hg hsize hdg hW (X₁.named hnamed) (hpre vm₁ X₁.warmed) with ⟨v, B, X', hpost, hsteps⟩ | ⟨q, B, X', hpost, hsteps⟩
  · exact Or.inl ⟨v, vm₁, B, X₁.warmed, X', hpost, fun target h => hstep₁ _ fun acts => by rw [doInvoke_state]; exact hsteps.trans h⟩
  · exact Or.inr ⟨q, vm₁, B, X₁.warmed, X', hpost, hstep₁ _ fun acts => by rw [doInvoke_state]; exact hsteps⟩
end Calls
theorem vx_cls {s : State} {T : State} {vm₁ : Vm} {E : String} {k : ClassId} (hW : s.WarmedH vm₁) (h : (T.setVm vm₁).vm.findClass E = some k) : s.vm.findClass E = some k := by
  have h1 : vm₁.findClass E = some k := h
  rw [hW.alike.findClass] at h1
  exact h1
/-- the method's frame g, with q thrown over it -/
def vx_W (p : Program) (l : Launch) (e : Env) (R : Room) (s : State) (m : MethodId) (args : Array Value) (below : List Frame) (meth : Method) (c : Code) (H : Heap) (locs : List Loc) (cells slots : Nat) (Q : State → Prop) (g : JFrame) (q : Addr) : Prop :=
  ∀ T : State, T.heap = H → Stand p l e R s m args below meth c T locs cells slots → ∃ t, Steps p.tables e below ((T.setTop g).pushFrame (.throwing q)) t ∧ Q t
def vx_Run (p : Program) (l : Launch) (e : Env) (R : Room) (s : State) (m : MethodId) (args : Array Value) (below : List Frame) (meth : Method) (c : Code) (H : Heap) (locs : List Loc) (cells slots mc ms : Nat) (g : JFrame) (rest : List Value) (Qa : State → Outcome → State → Prop) (XC : String → State → State → Prop) (free : Addr → Prop) : Prop :=
  ∀ T : State, T.heap = H → Stand p l e R s m args below meth c T locs cells slots →
    (∃ (v : Option Value) (st₀ t T' : State) (L : List Loc), st₀.heap = H ∧ Stand p l e R s m args below meth c T' (locs ++ L) (cells + mc) (slots + ms) ∧ (∀ q ∈ L, free q.base) ∧ T'.heap = t.heap ∧ T'.vm = t.vm ∧ Qa st₀ (.returned v) t ∧
      Goes p e below T g T' { g with pc := g.pc + 3, stack := v.toList ++ rest }) ∨
    (∃ (q : Addr) (st₀ t T' : State) (L : List Loc) (E : String) (ce : Cell), st₀.heap = H ∧ Stand p l e R s m args below meth c T' (locs ++ L) (cells + mc) (slots + ms) ∧ (∀ z ∈ L, free z.base) ∧ T'.heap = t.heap ∧ T'.vm = t.vm ∧ XC E st₀ t ∧ t.heap[q]? = some ce ∧ ce.vm = .none ∧ s.vm.findClass E = some ce.cls ∧
      Steps p.tables e below (T.setTop g) ((T'.setTop { g with stack := rest }).pushFrame (.throwing q)))
def vx_X {S : Type} (px : S → Prop) (B : String → S → State → Prop) (A : Nat → Prop) : String → State → State → Prop := fun E st t => ∃ u : S, px u ∧ B E u t ∧ va_F A st t
section Runs
variable {p : Program} {l : Launch} {e : Env} {R : Room} {s : State} {m : MethodId} {args : Array Value} {below : List Frame} {meth : Method} {c : Code} {H : Heap} {locs : List Loc} {cells slots : Nat}
variable {y : MethodName} {bytes cc : ByteArray} {maxL nL mc ms n index : Nat} {ret : Option FieldType} {ws : List Cond} {rm : Room} {Pc : Array Value → State → Prop} {Qc : Array Value → State → Outcome → State → Prop} {XC : String → State → State → Prop} {free : Addr → Prop} {Ts : List Cond} {own C : String} {b : Addr} {As rest : List Value} {g : JFrame}
theorem vx_callBack (cb : CallB R s args own index y bytes maxL ret ws rm mc ms n) (hM : vx_Met l y ws rm Pc Qc XC mc ms free) (hbl : FrameBlind Pc) : vx_Back l R p e below s args y 3 8 (PreOf R mc ms Pc) (PostOf Qc mc ms free) (vx_Post XC mc ms free) := by
  obtain ⟨hrc, hrs, hfr, hlo, hws, hcw, -, hini, -⟩ := cb
  exact vx_back (bytes := bytes) (maxL := maxL) (ret := ret) hM hbl hrc hrs hfr hlo hws hcw (fun a' U hW => word_at hW (Or.inl (by first | rfl | simp [Cond.onTables, Cond.keeps, Cond.steady])) hini)
theorem vx_runV (S : CallFix p m c cc nL s args Ts own) (hM : vx_Met l y ws rm Pc Qc XC mc ms free) (cw : CallW R s args own C index y bytes maxL ret ws rm mc ms n) (hp : PreV s H C b Pc As)
    (hg : g.method = m) (hn : As.length = n) (hsize : g.locals.size = nL) (hstack : g.stack = As.reverse ++ .ref b :: rest) (hW : 2 * g.monitorRoom + (rest.map fun v => v.category).sum ≤ 8) (hdg : decode cc g.pc = .ok (.invokevirtual index, 3)) (hf : cells + mc ≤ R.cells ∧ slots + ms ≤ R.slots) :
    vx_Run p l e R s m args below meth c H locs cells slots mc ms g rest (Qc (Value.ref b :: As).toArray) XC free := by
  have hK : vx_Back l R p e below s args y 3 8 (PreOf R mc ms Pc) (PostOf Qc mc ms free) (vx_Post XC mc ms free) := vx_callBack cw.1 hM hp.1
  obtain ⟨⟨-, -, -, -, -, -, hcode, -, hy, hlen, hl⟩, hin, hse⟩ := cw
  obtain ⟨hx, hb, hml, ho, -⟩ := S
  obtain ⟨-, ⟨cellB, hcB, hoB, hclB⟩, hPc⟩ := hp
  intro T hT X
  rcases vx_callV X hx (C := C) (bytes := bytes) (maxL := maxL) (ret := ret) ho hl hin hse hcode hy hK (by rw [hT]; exact hcB) hoB hclB hg (hsize.trans hml.symm) (argsL := As) (rest := rest) (fun sig h => hn.trans (hlen sig h)) hstack hW (by rw [hb]; exact hdg)
    (fun vm₁ hW₁ => ⟨hf.1, hf.2, hPc (T.setVm vm₁) hT hW₁⟩) with ⟨v, vm₁, ⟨U', l2, c2, s2⟩, hW₁, X', ⟨g', mk, t, L, e1, e2, hq, h1, hL, h2, h3⟩, st⟩ | ⟨q, vm₁, ⟨U', l2, c2, s2⟩, hW₁, X', ⟨g', mk, t, L, E, ce, e1, e2, hq, hce, hcv, hcl, h1, hL, h2, h3⟩, st⟩
  · dsimp only [Pt.U, Pt.locs, Pt.cells, Pt.slots] at X' e1 e2 h1 h2 h3 st
    subst h1; subst h2; subst h3
    exact Or.inl ⟨v, (T.setVm vm₁).calling g' mk (Value.ref b :: As).toArray, t, U', L, hT, X', hL, e1, e2, hq, st⟩
  · dsimp only [Pt.U, Pt.locs, Pt.cells, Pt.slots] at X' e1 e2 h1 h2 h3 st hcl
    subst h1; subst h2; subst h3
    exact Or.inr ⟨q, (T.setVm vm₁).calling g' mk (Value.ref b :: As).toArray, t, U', L, E, ce, hT, X', hL, e1, e2, hq, hce, hcv, vx_cls hW₁ hcl, st⟩
theorem vx_runS (S : CallFix p m c cc nL s args Ts own) (hM : vx_Met l y ws rm Pc Qc XC mc ms free) (cw : CallB R s args own index y bytes maxL ret ws rm mc ms n ∧ (Cond.static y).before args s = true) (hp : PreS s H Pc As)
    (hg : g.method = m) (hn : As.length = n) (hsize : g.locals.size = nL) (hstack : g.stack = As.reverse ++ rest) (hW : 2 * g.monitorRoom + (rest.map fun v => v.category).sum ≤ 8) (hdg : decode cc g.pc = .ok (.invokestatic index, 3)) (hf : cells + mc ≤ R.cells ∧ slots + ms ≤ R.slots) :
    vx_Run p l e R s m args below meth c H locs cells slots mc ms g rest (Qc As.toArray) XC free := by
  have hK : vx_Back l R p e below s args y 3 8 (PreOf R mc ms Pc) (PostOf Qc mc ms free) (vx_Post XC mc ms free) := vx_callBack cw.1 hM hp.1
  obtain ⟨⟨-, -, -, -, -, -, hcode, hini, hy, hlen, hl⟩, hstt⟩ := cw
  obtain ⟨hx, hb, hml, ho, -⟩ := S
  intro T hT X
  rcases vx_callS X hx (bytes := bytes) (maxL := maxL) (ret := ret) ho hl hstt hini hcode hy hK hg (hsize.trans hml.symm) (argsL := As) (rest := rest) (fun sig h => hn.trans (hlen sig h)) hstack hW (by rw [hb]; exact hdg)
    (fun vm₁ hW₁ => ⟨hf.1, hf.2, hp.2 (T.setVm vm₁) hT hW₁⟩) with ⟨v, vm₁, ⟨U', l2, c2, s2⟩, hW₁, X', ⟨g', mk, t, L, e1, e2, hq, h1, hL, h2, h3⟩, st⟩ | ⟨q, vm₁, ⟨U', l2, c2, s2⟩, hW₁, X', ⟨g', mk, t, L, E, ce, e1, e2, hq, hce, hcv, hcl, h1, hL, h2, h3⟩, st⟩
  · dsimp only [Pt.U, Pt.locs, Pt.cells, Pt.slots] at X' e1 e2 h1 h2 h3 st
    subst h1; subst h2; subst h3
    exact Or.inl ⟨v, (T.setVm vm₁).calling g' mk As.toArray, t, U', L, hT, X', hL, e1, e2, hq, st⟩
  · dsimp only [Pt.U, Pt.locs, Pt.cells, Pt.slots] at X' e1 e2 h1 h2 h3 st hcl
    subst h1; subst h2; subst h3
    exact Or.inr ⟨q, (T.setVm vm₁).calling g' mk As.toArray, t, U', L, E, ce, hT, X', hL, e1, e2, hq, hce, hcv, vx_cls hW₁ hcl, st⟩
end Runs
section Rows
variable {p : Program} {l : Launch} {e : Env} {R : Room} {s : State} {m : MethodId} {args : Array Value} {below : List Frame} {meth : Method} {c : Code} {H : Heap} {locs : List Loc} {cells slots : Nat} {Q : State → Prop}
variable {mc ms : Nat} {free : Addr → Prop} {A0 A1 : Nat → Prop} {H0 : Heap} {a : Array Value} {pc : Nat} {ls : Array Slot} {st0 rest : List Value}
theorem vx_keep {st₀ t T' : State} {L : List Loc} (h0 : st₀.heap = H) (e1 : T'.heap = t.heap) (hS : va_S A0 H0 H locs) (hA : ∀ q, q < H.size → A1 q → A0 q) (hf : ∀ q, free q → A0 q) (hL : ∀ q ∈ L, free q.base) (hF : va_F A1 st₀ t) :
    H.size ≤ T'.heap.size ∧ (∀ q : Nat, q < H.size → ¬ A1 q → T'.heap[q]? = H[q]?) ∧ va_S A0 H0 T'.heap (locs ++ L) := by
  obtain ⟨hz, hk⟩ := hF
  rw [h0] at hz hk
  exact ⟨by rw [e1]; exact hz, fun q h1 h2 => by rw [e1]; exact hk q h1 h2,
    ⟨Nat.le_trans hS.1 (by rw [e1]; exact hz), fun q h1 h2 => by rw [e1, hk q (Nat.lt_of_lt_of_le h1 hS.1) (fun z => h2 (hA q (Nat.lt_of_lt_of_le h1 hS.1) z))]; exact hS.2.1 q h1 h2, fun q hq => by
      rcases List.mem_append.mp hq with h | h
      · exact hS.2.2 q h
      · exact hf _ (hL q h)⟩⟩
theorem vx_calli {S SX : Type} {post : Int32 → S → Prop} {px : SX → Prop} {B : S → State → Prop} {BX : String → SX → State → Prop} {AX : Nat → Prop} (hr : vx_Run p l e R s m args below meth c H locs cells slots mc ms (F0 m pc ls st0) rest (va_Qi post B A1 a) (vx_X px BX AX) free) (hS : va_S A0 H0 H locs) (hA : ∀ q, q < H.size → A1 q → A0 q) (hf : ∀ q, free q → A0 q) (hAX : ∀ q, q < H.size → AX q → A0 q)
    (kx : ∀ (E : String) (ce : Cell) (q9 : Addr) (u : SX) (t : State) (H1 : Heap) (locs1 : List Loc), t.heap = H1 → s.vm.Alike t.vm → px u → BX E u t → H.size ≤ H1.size → (∀ q : Nat, q < H.size → ¬ AX q → H1[q]? = H[q]?) → va_S A0 H0 H1 locs1 → H1[q9]? = some ce → ce.vm = .none → s.vm.findClass E = some ce.cls → vx_W p l e R s m args below meth c H1 locs1 (cells + mc) (slots + ms) Q (F0 m pc ls rest) q9)
    (kk : ∀ (r : Int32) (u : S) (t : State) (H1 : Heap) (locs1 : List Loc), t.heap = H1 → s.vm.Alike t.vm → post r u → B u t → H.size ≤ H1.size → (∀ q : Nat, q < H.size → ¬ A1 q → H1[q]? = H[q]?) → va_S A0 H0 H1 locs1 → W p l e R s m args below meth c H1 locs1 (cells + mc) (slots + ms) Q (F0 m (pc + 3) ls (.int r :: rest))) : W p l e R s m args below meth c H locs cells slots Q (F0 m pc ls st0) := by
  intro T hT X
  rcases hr T hT X with ⟨v, st₀, t, T', L, h0, X', hL, e1, e2, ⟨⟨r, u, hv, hp, hb⟩, hF⟩, st⟩ | ⟨q, st₀, t, T', L, E, ce, h0, X', hL, e1, e2, ⟨u, hp, hb, hF⟩, hce, hcv, hcl, st⟩
  · cases hv
    obtain ⟨k1, k2, k3⟩ := vx_keep h0 e1 hS hA hf hL hF
    obtain ⟨t2, a1, b1⟩ := kk r u t T'.heap (locs ++ L) e1.symm (by rw [← e2]; exact X'.warmed.alike) hp hb k1 k2 k3 T' rfl X'
    exact ⟨t2, st t2 a1, b1⟩
  · obtain ⟨k1, k2, k3⟩ := vx_keep h0 e1 hS hAX hf hL hF
    obtain ⟨t2, a1, b1⟩ := kx E ce q u t T'.heap (locs ++ L) e1.symm (by rw [← e2]; exact X'.warmed.alike) hp hb k1 k2 k3 (by rw [e1]; exact hce) hcv hcl T' rfl X'
    exact ⟨t2, st.trans a1, b1⟩
theorem vx_calll {S SX : Type} {post : Int64 → S → Prop} {px : SX → Prop} {B : S → State → Prop} {BX : String → SX → State → Prop} {AX : Nat → Prop} (hr : vx_Run p l e R s m args below meth c H locs cells slots mc ms (F0 m pc ls st0) rest (va_Ql post B A1 a) (vx_X px BX AX) free) (hS : va_S A0 H0 H locs) (hA : ∀ q, q < H.size → A1 q → A0 q) (hf : ∀ q, free q → A0 q) (hAX : ∀ q, q < H.size → AX q → A0 q)
    (kx : ∀ (E : String) (ce : Cell) (q9 : Addr) (u : SX) (t : State) (H1 : Heap) (locs1 : List Loc), t.heap = H1 → s.vm.Alike t.vm → px u → BX E u t → H.size ≤ H1.size → (∀ q : Nat, q < H.size → ¬ AX q → H1[q]? = H[q]?) → va_S A0 H0 H1 locs1 → H1[q9]? = some ce → ce.vm = .none → s.vm.findClass E = some ce.cls → vx_W p l e R s m args below meth c H1 locs1 (cells + mc) (slots + ms) Q (F0 m pc ls rest) q9)
    (kk : ∀ (r : Int64) (u : S) (t : State) (H1 : Heap) (locs1 : List Loc), t.heap = H1 → s.vm.Alike t.vm → post r u → B u t → H.size ≤ H1.size → (∀ q : Nat, q < H.size → ¬ A1 q → H1[q]? = H[q]?) → va_S A0 H0 H1 locs1 → W p l e R s m args below meth c H1 locs1 (cells + mc) (slots + ms) Q (F0 m (pc + 3) ls (.long r :: rest))) : W p l e R s m args below meth c H locs cells slots Q (F0 m pc ls st0) := by
  intro T hT X
  rcases hr T hT X with ⟨v, st₀, t, T', L, h0, X', hL, e1, e2, ⟨⟨r, u, hv, hp, hb⟩, hF⟩, st⟩ | ⟨q, st₀, t, T', L, E, ce, h0, X', hL, e1, e2, ⟨u, hp, hb, hF⟩, hce, hcv, hcl, st⟩
  · cases hv
    obtain ⟨k1, k2, k3⟩ := vx_keep h0 e1 hS hA hf hL hF
    obtain ⟨t2, a1, b1⟩ := kk r u t T'.heap (locs ++ L) e1.symm (by rw [← e2]; exact X'.warmed.alike) hp hb k1 k2 k3 T' rfl X'
    exact ⟨t2, st t2 a1, b1⟩
  · obtain ⟨k1, k2, k3⟩ := vx_keep h0 e1 hS hAX hf hL hF
    obtain ⟨t2, a1, b1⟩ := kx E ce q u t T'.heap (locs ++ L) e1.symm (by rw [← e2]; exact X'.warmed.alike) hp hb k1 k2 k3 (by rw [e1]; exact hce) hcv hcl T' rfl X'
    exact ⟨t2, st.trans a1, b1⟩
theorem vx_callf {S SX : Type} {post : UInt32 → S → Prop} {px : SX → Prop} {B : S → State → Prop} {BX : String → SX → State → Prop} {AX : Nat → Prop} (hr : vx_Run p l e R s m args below meth c H locs cells slots mc ms (F0 m pc ls st0) rest (va_Qf post B A1 a) (vx_X px BX AX) free) (hS : va_S A0 H0 H locs) (hA : ∀ q, q < H.size → A1 q → A0 q) (hf : ∀ q, free q → A0 q) (hAX : ∀ q, q < H.size → AX q → A0 q)
    (kx : ∀ (E : String) (ce : Cell) (q9 : Addr) (u : SX) (t : State) (H1 : Heap) (locs1 : List Loc), t.heap = H1 → s.vm.Alike t.vm → px u → BX E u t → H.size ≤ H1.size → (∀ q : Nat, q < H.size → ¬ AX q → H1[q]? = H[q]?) → va_S A0 H0 H1 locs1 → H1[q9]? = some ce → ce.vm = .none → s.vm.findClass E = some ce.cls → vx_W p l e R s m args below meth c H1 locs1 (cells + mc) (slots + ms) Q (F0 m pc ls rest) q9)
    (kk : ∀ (r : UInt32) (u : S) (t : State) (H1 : Heap) (locs1 : List Loc), t.heap = H1 → s.vm.Alike t.vm → post r u → B u t → H.size ≤ H1.size → (∀ q : Nat, q < H.size → ¬ A1 q → H1[q]? = H[q]?) → va_S A0 H0 H1 locs1 → W p l e R s m args below meth c H1 locs1 (cells + mc) (slots + ms) Q (F0 m (pc + 3) ls (.float r :: rest))) : W p l e R s m args below meth c H locs cells slots Q (F0 m pc ls st0) := by
  intro T hT X
  rcases hr T hT X with ⟨v, st₀, t, T', L, h0, X', hL, e1, e2, ⟨⟨r, u, hv, hp, hb⟩, hF⟩, st⟩ | ⟨q, st₀, t, T', L, E, ce, h0, X', hL, e1, e2, ⟨u, hp, hb, hF⟩, hce, hcv, hcl, st⟩
  · cases hv
    obtain ⟨k1, k2, k3⟩ := vx_keep h0 e1 hS hA hf hL hF
    obtain ⟨t2, a1, b1⟩ := kk r u t T'.heap (locs ++ L) e1.symm (by rw [← e2]; exact X'.warmed.alike) hp hb k1 k2 k3 T' rfl X'
    exact ⟨t2, st t2 a1, b1⟩
  · obtain ⟨k1, k2, k3⟩ := vx_keep h0 e1 hS hAX hf hL hF
    obtain ⟨t2, a1, b1⟩ := kx E ce q u t T'.heap (locs ++ L) e1.symm (by rw [← e2]; exact X'.warmed.alike) hp hb k1 k2 k3 (by rw [e1]; exact hce) hcv hcl T' rfl X'
    exact ⟨t2, st.trans a1, b1⟩
theorem vx_calld {S SX : Type} {post : UInt64 → S → Prop} {px : SX → Prop} {B : S → State → Prop} {BX : String → SX → State → Prop} {AX : Nat → Prop} (hr : vx_Run p l e R s m args below meth c H locs cells slots mc ms (F0 m pc ls st0) rest (va_Qd post B A1 a) (vx_X px BX AX) free) (hS : va_S A0 H0 H locs) (hA : ∀ q, q < H.size → A1 q → A0 q) (hf : ∀ q, free q → A0 q) (hAX : ∀ q, q < H.size → AX q → A0 q)
    (kx : ∀ (E : String) (ce : Cell) (q9 : Addr) (u : SX) (t : State) (H1 : Heap) (locs1 : List Loc), t.heap = H1 → s.vm.Alike t.vm → px u → BX E u t → H.size ≤ H1.size → (∀ q : Nat, q < H.size → ¬ AX q → H1[q]? = H[q]?) → va_S A0 H0 H1 locs1 → H1[q9]? = some ce → ce.vm = .none → s.vm.findClass E = some ce.cls → vx_W p l e R s m args below meth c H1 locs1 (cells + mc) (slots + ms) Q (F0 m pc ls rest) q9)
    (kk : ∀ (r : UInt64) (u : S) (t : State) (H1 : Heap) (locs1 : List Loc), t.heap = H1 → s.vm.Alike t.vm → post r u → B u t → H.size ≤ H1.size → (∀ q : Nat, q < H.size → ¬ A1 q → H1[q]? = H[q]?) → va_S A0 H0 H1 locs1 → W p l e R s m args below meth c H1 locs1 (cells + mc) (slots + ms) Q (F0 m (pc + 3) ls (.double r :: rest))) : W p l e R s m args below meth c H locs cells slots Q (F0 m pc ls st0) := by
  intro T hT X
  rcases hr T hT X with ⟨v, st₀, t, T', L, h0, X', hL, e1, e2, ⟨⟨r, u, hv, hp, hb⟩, hF⟩, st⟩ | ⟨q, st₀, t, T', L, E, ce, h0, X', hL, e1, e2, ⟨u, hp, hb, hF⟩, hce, hcv, hcl, st⟩
  · cases hv
    obtain ⟨k1, k2, k3⟩ := vx_keep h0 e1 hS hA hf hL hF
    obtain ⟨t2, a1, b1⟩ := kk r u t T'.heap (locs ++ L) e1.symm (by rw [← e2]; exact X'.warmed.alike) hp hb k1 k2 k3 T' rfl X'
    exact ⟨t2, st t2 a1, b1⟩
  · obtain ⟨k1, k2, k3⟩ := vx_keep h0 e1 hS hAX hf hL hF
    obtain ⟨t2, a1, b1⟩ := kx E ce q u t T'.heap (locs ++ L) e1.symm (by rw [← e2]; exact X'.warmed.alike) hp hb k1 k2 k3 (by rw [e1]; exact hce) hcv hcl T' rfl X'
    exact ⟨t2, st.trans a1, b1⟩
theorem vx_callv {S SX : Type} {post : S → Prop} {px : SX → Prop} {B : S → State → Prop} {BX : String → SX → State → Prop} {AX : Nat → Prop} (hr : vx_Run p l e R s m args below meth c H locs cells slots mc ms (F0 m pc ls st0) rest (va_Qv post B A1 a) (vx_X px BX AX) free) (hS : va_S A0 H0 H locs) (hA : ∀ q, q < H.size → A1 q → A0 q) (hf : ∀ q, free q → A0 q) (hAX : ∀ q, q < H.size → AX q → A0 q)
    (kx : ∀ (E : String) (ce : Cell) (q9 : Addr) (u : SX) (t : State) (H1 : Heap) (locs1 : List Loc), t.heap = H1 → s.vm.Alike t.vm → px u → BX E u t → H.size ≤ H1.size → (∀ q : Nat, q < H.size → ¬ AX q → H1[q]? = H[q]?) → va_S A0 H0 H1 locs1 → H1[q9]? = some ce → ce.vm = .none → s.vm.findClass E = some ce.cls → vx_W p l e R s m args below meth c H1 locs1 (cells + mc) (slots + ms) Q (F0 m pc ls rest) q9)
    (kk : ∀ (u : S) (t : State) (H1 : Heap) (locs1 : List Loc), t.heap = H1 → s.vm.Alike t.vm → post u → B u t → H.size ≤ H1.size → (∀ q : Nat, q < H.size → ¬ A1 q → H1[q]? = H[q]?) → va_S A0 H0 H1 locs1 → W p l e R s m args below meth c H1 locs1 (cells + mc) (slots + ms) Q (F0 m (pc + 3) ls (rest))) : W p l e R s m args below meth c H locs cells slots Q (F0 m pc ls st0) := by
  intro T hT X
  rcases hr T hT X with ⟨v, st₀, t, T', L, h0, X', hL, e1, e2, ⟨⟨u, hv, hp, hb⟩, hF⟩, st⟩ | ⟨q, st₀, t, T', L, E, ce, h0, X', hL, e1, e2, ⟨u, hp, hb, hF⟩, hce, hcv, hcl, st⟩
  · cases hv
    obtain ⟨k1, k2, k3⟩ := vx_keep h0 e1 hS hA hf hL hF
    obtain ⟨t2, a1, b1⟩ := kk u t T'.heap (locs ++ L) e1.symm (by rw [← e2]; exact X'.warmed.alike) hp hb k1 k2 k3 T' rfl X'
    exact ⟨t2, st t2 a1, b1⟩
  · obtain ⟨k1, k2, k3⟩ := vx_keep h0 e1 hS hAX hf hL hF
    obtain ⟨t2, a1, b1⟩ := kx E ce q u t T'.heap (locs ++ L) e1.symm (by rw [← e2]; exact X'.warmed.alike) hp hb k1 k2 k3 (by rw [e1]; exact hce) hcv hcl T' rfl X'
    exact ⟨t2, st.trans a1, b1⟩
/-- caught by the row x of this method's table; the rows ahead don't take it -/
theorem vx_catch {own name : String} {E : String} {ce : Cell} {q : Addr} (hown : s.vm.findClass own = some m.cls) (pre : List ExceptionTableEntry) (x : ExceptionTableEntry) (suf : List ExceptionTableEntry) (hsplit : c.exceptionTable.toList = pre ++ x :: suf)
    (hpass : ∀ z ∈ pre, covers z pc = false ∨ (z.catchType ≠ 0 ∧ ∃ nm : String, (Cond.classLink own z.catchType nm).before args s = true ∧ va_Nc E nm s)) (hx : covers x pc = true) (h0 : x.catchType ≠ 0)
    (hlink : (Cond.classLink own x.catchType name).before args s = true) (hcast : (Cond.castable E name).before args s = true) (hcell : H[q]? = some ce) (hv : ce.vm = .none) (hcl : s.vm.findClass E = some ce.cls)
    (kk : W p l e R s m args below meth c H locs cells slots Q (F0 m x.handlerPc ls [.ref q])) : vx_W p l e R s m args below meth c H locs cells slots Q (F0 m pc ls rest) q := by
  intro T hT X
  have hpl : e.platform.magicAccessors = ({} : Platform).magicAccessors := by rw [X.admits.platform]
  obtain ⟨c3, c4, hc3, hc4, hasg⟩ := Cond.castable_spec hcast
  cases Option.some.inj (hc3.symm.trans hcl)
  obtain ⟨c5, hc5, hcl5⟩ := Cond.classLink_spec hown hlink e.platform hpl
  cases Option.some.inj (hc4.symm.trans hc5)
  obtain ⟨vm', X', st⟩ := X.thenCaughtThrough q (g := F0 m pc ls rest) rfl (Steps.refl _) (by rw [hT]; exact hcell) (by rw [hv]; rfl) (by obtain ⟨k9, h9, -⟩ := Vm.findClass_spec hcl; exact ⟨k9, h9⟩) pre x suf hsplit
    (fun z hz => by
      rcases hpass z hz with h | ⟨hz0, nm, hl1, hn1⟩
      · exact Or.inl h
      · obtain ⟨c6, hc6, hcl6⟩ := Cond.classLink_spec hown hl1 e.platform hpl
        obtain ⟨a8, b8, h1, h2, h3⟩ := hn1
        cases Option.some.inj (h1.symm.trans hcl)
        cases Option.some.inj (h2.symm.trans hc6)
        exact Or.inr ⟨hz0, _, hcl6, h3⟩) hx (Or.inr ⟨h0, c4, hcl5, hasg⟩)
  obtain ⟨t, a1, b1⟩ := kk (T.setVm vm') hT X'
  exact ⟨t, st.trans a1, b1⟩
end Rows
section Ends
variable {p : Program} {l : Launch} {e : Env} {R : Room} {s : State} {m : MethodId} {args : Array Value} {below : List Frame} {meth : Method} {c : Code} {H : Heap} {locs : List Loc} {cells slots : Nat} {Q : State → Prop}
variable {mc ms : Nat} {free : Addr → Prop} {A0 A1 : Nat → Prop} {H0 : Heap} {a : Array Value} {ls : Array Slot} {st0 rest : List Value}
variable {Qc : Array Value → State → Outcome → State → Prop} {XC : String → State → State → Prop}
/-- what a body that may throw owes at its end -/
def vx_MQ (below : List Frame) (Qc : Array Value → State → Outcome → State → Prop) (XC : String → State → State → Prop) (a : Array Value) (s : State) (mc ms : Nat) (free : Addr → Prop) : State → Prop := fun t =>
  ∃ o, t.status = .running ∧ Ended t below o ∧ vx_Q Qc XC mc ms free a s o t
theorem vx_ret {g : JFrame} {mc ms : Nat} (k : W p l e R s m args below meth c H locs cells slots (MQ below Qc args s mc ms free) g) : W p l e R s m args below meth c H locs cells slots (vx_MQ below Qc XC args s mc ms free) g := by
  intro T hT X
  obtain ⟨t, a1, o, b1, b2, b3, b4⟩ := k T hT X
  exact ⟨t, a1, o, b1, b2, Or.inl ⟨b3, b4⟩⟩
/-- not caught here: it goes on to the caller -/
theorem vx_widen {g : JFrame} {q : Addr} {k n : Nat} (h1 : cells ≤ k) (h2 : slots ≤ n) (kk : vx_W p l e R s m args below meth c H locs k n Q g q) : vx_W p l e R s m args below meth c H locs cells slots Q g q := fun T hT X => kk T hT (stand_widen X h1 h2)
theorem vx_out {pc : Nat} {E : String} {ce : Cell} {q : Addr} {mc ms : Nat} (hout : ∀ x ∈ c.exceptionTable.toList, covers x pc = false) (hlocks : meth.locks = false) (hcell : H[q]? = some ce) (hv : ce.vm = .none) (hcl : s.vm.findClass E = some ce.cls)
    (hx : ∀ t : State, t.heap = H → s.vm.Alike t.vm → XC E s t) (hf : ∀ z ∈ locs, free z.base) (hc : cells ≤ mc) (hs : slots ≤ ms) :
    vx_W p l e R s m args below meth c H locs cells slots (vx_MQ below Qc XC args s mc ms free) (F0 m pc ls rest) q := by
  intro T hT X
  obtain ⟨st1, hrun, hend, hW, hsm⟩ := X.leaveThrown q (g := F0 m pc ls rest) rfl rfl rfl hout hlocks
  have hcell9 : (T.setFrames (.throwing q :: below)).heap[q]? = some ce := by
    show T.heap[q]? = some ce
    rw [hT]; exact hcell
  exact ⟨_, st1, .threw q, hrun, hend, Or.inr ⟨q, rfl, E, ce, locs, hx _ hT hW.alike, hcell9, hv, hcl, hW, hsm.mono hc hs, hf⟩⟩
theorem vx_frame {U : State} {k n : Nat} (h : s.sameButNew ({ U with vm := s.vm } : State) locs k n) : s.heap.size ≤ U.heap.size ∧ ∀ q : Nat, q < s.heap.size → (∀ z ∈ locs, z.base ≠ q) → U.heap[q]? = s.heap[q]? := by
  obtain ⟨-, h2, -, -, -, h6⟩ := h
  refine ⟨h2, fun q hq hz => ?_⟩
  obtain ⟨c9, e1, e2, e3, e4⟩ := h6 q _ (Array.getElem?_eq_getElem hq)
  have hs : c9.slots = (s.heap[q]).slots := Array.ext_getElem? fun i => e4 i fun hm => hz _ hm rfl
  have h9 : c9 = s.heap[q] := by
    rw [hs] at e2
    exact e2
  have e5 : U.heap[q]? = some c9 := e1
  rw [e5, h9, Array.getElem?_eq_getElem hq]
/-- the words of a throw but the four that speak of the heap -/
def vx_no (w : Cond) : Bool := decide (w ≠ .isRef (.static Jvm.Bundle.tN "UNASSIGNED_STACK" Jvm.Bundle.steD)) && decide (w ≠ .isRef (.static Jvm.Bundle.tN "SUPPRESSED_SENTINEL" Jvm.Bundle.listD)) && decide (w ≠ .laysStatic Jvm.Bundle.tN "UNASSIGNED_STACK" Jvm.Bundle.steD) && decide (w ≠ .laysStatic Jvm.Bundle.tN "SUPPRESSED_SENTINEL" Jvm.Bundle.listD)
def vx_at0 (own : String) (ic : Nat) (X : String) (names : List String) : List Cond := (Jvm.Bundle.ownAtoms0 own ic X names).filter vx_no
def vx_atS (own : String) (ic : Nat) (X : String) (names : List String) : List Cond := (Jvm.Bundle.ownAtoms own ic X names).filter vx_no
/-- a word that the tables alone decide, or a good one -/
def vx_ot (w : Cond) : Bool := w.onTables || goodWord w
theorem vx_ot_at {args a' : Array Value} {s U : State} {w : Cond} (hW : s.WarmedH U.vm) (hvm : s.vm = U.vm) (hg : vx_ot w = true) (h : w.before args s = true) : w.before a' U = true := by
  simp only [vx_ot, Bool.or_eq_true] at hg
  rcases hg with hg | hg
  · exact va_tabs hg hvm h
  · exact word_at hW (good_of_word hg) h
/-- a list's words: the good ones out of the method's own list, the others by premises of their own -/
theorem vx_hat {args : Array Value} {s : State} {L B : List Cond} (h1 : ∀ w ∈ L.filter goodWord, w.before args s = true) (h2 : ∀ w ∈ L.filter (fun w => !goodWord w), w ∈ B) (h3 : ∀ w ∈ B, w.before args s = true) : ∀ w ∈ L, w.before args s = true := by
  intro w hw
  by_cases g : goodWord w = true
  · exact h1 w (List.mem_filter.mpr ⟨hw, g⟩)
  · refine h3 w (h2 w (List.mem_filter.mpr ⟨hw, ?_⟩))
    show (!goodWord w) = true
    cases hgw : goodWord w
    · rfl
    · exact absurd hgw g
theorem vx_c {args : Array Value} {s : State} {w : Cond} {B : List Cond} (h : w.before args s = true) (t : ∀ w ∈ B, w.before args s = true) : ∀ w' ∈ w :: B, w'.before args s = true := fun w' h' => (List.mem_cons.mp h').elim (fun e => by rw [e]; exact h) (t w')
theorem vx_n {args : Array Value} {s : State} : ∀ w ∈ ([] : List Cond), w.before args s = true := fun _ h => nomatch h
theorem vx_own {args : Array Value} {s : State} {L : List Cond} (h1 : ∀ w ∈ L.filter vx_no, w.before args s = true)
    (hU : (Cond.isRef (.static Jvm.Bundle.tN "UNASSIGNED_STACK" Jvm.Bundle.steD)).before args s = true) (hN : (Cond.isRef (.static Jvm.Bundle.tN "SUPPRESSED_SENTINEL" Jvm.Bundle.listD)).before args s = true)
    (lU : (Cond.laysStatic Jvm.Bundle.tN "UNASSIGNED_STACK" Jvm.Bundle.steD).before args s = true) (lN : (Cond.laysStatic Jvm.Bundle.tN "SUPPRESSED_SENTINEL" Jvm.Bundle.listD).before args s = true) : ∀ w ∈ L, w.before args s = true := by
  intro w hw
  by_cases e1 : w = .isRef (.static Jvm.Bundle.tN "UNASSIGNED_STACK" Jvm.Bundle.steD)
  · rw [e1]; exact hU
  · by_cases e2 : w = .isRef (.static Jvm.Bundle.tN "SUPPRESSED_SENTINEL" Jvm.Bundle.listD)
    · rw [e2]; exact hN
    · by_cases e3 : w = .laysStatic Jvm.Bundle.tN "UNASSIGNED_STACK" Jvm.Bundle.steD
      · rw [e3]; exact lU
      · by_cases e4 : w = .laysStatic Jvm.Bundle.tN "SUPPRESSED_SENTINEL" Jvm.Bundle.listD
        · rw [e4]; exact lN
        · exact h1 w (List.mem_filter.mpr ⟨hw, by unfold vx_no; rw [decide_eq_true e1, decide_eq_true e2, decide_eq_true e3, decide_eq_true e4]; rfl⟩)
/-- where a static field lies, its class's statics cell in H -/
def vx_L (C n d : String) (A : Nat → Prop) (U : State) (H : Heap) : Prop := ∃ (c : ClassId) (k : Class) (i : Nat) (f : Field) (a : Nat) (cell : Cell), U.vm.findClass C = some c ∧ U.fieldFound? C n d = some (c, k, i, f) ∧ f.isStatic = true ∧ k.statics = some a ∧ H[a]? = some cell ∧ cell.vm.isStatics = true ∧ cell.cls = c ∧ f.slot < cell.slots.size ∧ k.staticTypes[f.slot]? = some f.type ∧ ¬ A a
theorem vx_L.moved {C n d : String} {A : Nat → Prop} {u U : State} {H : Heap} (hvm : u.vm.Alike U.vm) (h : vx_L C n d A u H) : vx_L C n d A U H := by
  obtain ⟨c, k, i, f, a, cell, h1, h2, h3, h4, h5, h6, h7, h8, h9, h10⟩ := h
  obtain ⟨k', hi', he⟩ := State.fieldFound?_setVm hvm h2
  exact ⟨c, k', i, f, a, cell, by rw [hvm.findClass]; exact h1, hi', h3, by rw [he]; exact h4, h5, h6, h7, h8, by rw [he]; exact h9, h10⟩
theorem vx_L.kept {C n d : String} {A : Nat → Prop} {U : State} {H H1 : Heap} (h : vx_L C n d A U H) (hq : ∀ a : Nat, a < H.size → ¬ A a → H1[a]? = H[a]?) : vx_L C n d A U H1 := by
  obtain ⟨c, k, i, f, a, cell, h1, h2, h3, h4, h5, h6, h7, h8, h9, h10⟩ := h
  exact ⟨c, k, i, f, a, cell, h1, h2, h3, h4, by rw [hq a (Array.getElem?_eq_some_iff.mp h5).1 h10]; exact h5, h6, h7, h8, h9, h10⟩
theorem vx_L.narrow {C n d : String} {A B : Nat → Prop} {U : State} {H : Heap} (h : vx_L C n d A U H) (hAB : ∀ q, B q → A q) : vx_L C n d B U H := by
  obtain ⟨c, k, i, f, a, cell, h1, h2, h3, h4, h5, h6, h7, h8, h9, h10⟩ := h
  exact ⟨c, k, i, f, a, cell, h1, h2, h3, h4, h5, h6, h7, h8, h9, fun z => h10 (hAB _ z)⟩
theorem vx_L.word {C n d : String} {A : Nat → Prop} {s : State} {args : Array Value} (h : vx_L C n d A s s.heap) : (Cond.laysStatic C n d).before args s = true := by
  obtain ⟨c, k, i, f, a, cell, h1, h2, h3, h4, h5, h6, h7, h8, h9, -⟩ := h
  show (Cond.laysStatic C n d).holds args s none s [] = true
  exact Cond.laysStatic_of h1 h2 h3 h4 h5 h6 h7 h8 h9
/-- .. and what it holds: null or some reference -/
def vx_Zq (C n d : String) (A : Nat → Prop) (U : State) (H : Heap) : Prop := va_Zq C n d A U H ∧ vx_L C n d A U H
theorem vx_Zq.moved {C n d : String} {A : Nat → Prop} {u U : State} {H : Heap} (hvm : u.vm.Alike U.vm) (h : vx_Zq C n d A u H) : vx_Zq C n d A U H := ⟨va_Zq.moved hvm h.1, vx_L.moved hvm h.2⟩
theorem vx_Zq.kept {C n d : String} {A : Nat → Prop} {U : State} {H H1 : Heap} (h : vx_Zq C n d A U H) (hq : ∀ a : Nat, a < H.size → ¬ A a → H1[a]? = H[a]?) : vx_Zq C n d A U H1 := ⟨va_Zq.kept h.1 hq, vx_L.kept h.2 hq⟩
theorem vx_Zq.narrow {C n d : String} {A B : Nat → Prop} {U : State} {H : Heap} (h : vx_Zq C n d A U H) (hAB : ∀ q, B q → A q) : vx_Zq C n d B U H := ⟨va_Zq.narrow h.1 hAB, vx_L.narrow h.2 hAB⟩
theorem vx_Zqof {args : Array Value} {s : State} {C n d : String} {A : Nat → Prop} (hl : (Cond.laysStatic C n d).before args s = true) (hini : (Cond.initialized C).before args s = true) (h : (Cond.isRef (.static C n d)).before args s = true) (hA : ∀ a : Nat, a < s.heap.size → ¬ A a) : vx_Zq C n d A s s.heap := by
  refine ⟨va_Zqof hl hini h hA, ?_⟩
  obtain ⟨c, k, i, f, a, cell, h1, h2, h3, h4, h5, h6, h7, h8, h9⟩ := Cond.laysStatic_spec hl
  exact ⟨c, k, i, f, a, cell, h1, h2, h3, h4, h5, h6, h7, h8, h9, hA a (Array.getElem?_eq_some_iff.mp h5).1⟩
theorem vx_isRef {C n d : String} {v : Value} {A : Nat → Prop} {s : State} {args : Array Value} (h : va_Z C n d v A s s.heap) (hv : v.isRef = true) : (Cond.isRef (.static C n d)).before args s = true := by
  obtain ⟨cf, kf, fi, f, a, cell, h1, h2, h3, h4, h5, h6, h7, -⟩ := h
  have he : (Term.static C n d).eval args s none [] s = some v := by
    simp [Term.eval, State.fieldNamed?, h1, h2, h4, h5, h6, h7]
  simp only [Cond.before, Cond.holds, Cond.value, he]
  cases v <;> simp_all [Value.isRef]
theorem vx_isRefq {C n d : String} {A : Nat → Prop} {s : State} {args : Array Value} (h : va_Zq C n d A s s.heap) : (Cond.isRef (.static C n d)).before args s = true := by
  rcases h with h | ⟨t, h⟩
  · exact vx_isRef h rfl
  · exact vx_isRef h rfl
/-- the same frame, seen from here: as if the method were called anew in this heap -/
theorem vx_rebase {T : State} (X : Stand p l e R s m args below meth c T locs cells slots) {R' : Room} (hf : R'.frames ≤ R.frames) (hl : R'.locals ≤ R.locals) (hc : cells + R'.cells ≤ R.cells) (hs : slots + R'.slots ≤ R.slots) :
    Stand p l e R' ((T.setVm s.vm).setFrames (.invoking m args :: below)) m args below meth c T [] 0 0 := by
  have htop : (T.setVm s.vm).topJava?.isSome := X.here.top
  have hF : ((T.setVm s.vm).setFrames (.invoking m args :: below)).frames = .invoking m args :: below := State.frames_setFrames _ (State.cur_lt_of_top htop)
  obtain ⟨g₀, hg0⟩ := Option.isSome_iff_exists.mp htop
  obtain ⟨r, hr⟩ := State.topJava?_eq_some.mp hg0
  have hl9 : e.platform.stackLimits (T.setVm s.vm).me = e.platform.stackLimits s.me := X.limits
  have hb9 : (T.setVm s.vm).me.stackBytes = s.me.stackBytes := X.bytes
  refine ⟨X.admits, X.cas, X.clock, hF, ?_, X.hears, X.method, X.code, X.here, X.tail, X.warmed, ?_, ?_, ?_⟩
  · have h := X.room
    have hU : ((T.setVm s.vm).setFrames (.invoking m args :: below)).localsInUse = s.localsInUse := by
      rw [State.localsInUse_invoking hF (meth := meth) (c := c) X.method X.code, State.localsInUse_invoking X.frames X.method X.code]
    simp only [State.hasRoom, Bool.and_eq_true, decide_eq_true_eq] at h ⊢
    obtain ⟨⟨⟨⟨h1, h2, h3, h4, h5, h6⟩, h7⟩, h8⟩, h9⟩ := h
    rw [X.frames, List.length_cons] at h2 h3
    have q1 := X.heapSize
    have q2 := X.used
    simp only [hF, hU, List.length_cons, State.stackLimits_setFrames, State.stackBytes_setFrames, hl9, hb9]
    refine ⟨⟨⟨⟨by omega, by omega, by omega, by omega, by omega, h6⟩, ?_⟩, ?_⟩, X.book⟩
    · show T.heap.size + R'.cells ≤ e.platform.maxCells
      omega
    · show T.slotsUsed + R'.slots ≤ e.platform.maxSlots
      omega
  · rw [State.stackLimits_setFrames]; rfl
  · rw [State.stackBytes_setFrames]; rfl
  · refine ⟨?_, Nat.le_refl _, Nat.le_refl _, ?_, ?_, fun a c9 h9 => ⟨c9, h9, rfl, rfl, fun _ _ => rfl⟩⟩
    · obtain ⟨t, ht, -⟩ := State.frames_cons hr
      show T.setVm s.vm = { ((T.setVm s.vm).setFrames (.invoking m args :: below)).setFrames (T.setVm s.vm).frames with heap := T.heap, slotsUsed := T.slotsUsed }
      rw [State.setFrames_setFrames, State.setFrames_self ht]
      rfl
    · show T.slotsUsed = T.slotsUsed + ((T.heap.toList.drop T.heap.size).map (·.slots.size)).sum
      rw [List.drop_eq_nil_of_le (Nat.le_of_eq Array.length_toList)]
      rfl
    · show ((T.heap.toList.drop T.heap.size).map (·.slots.size)).sum ≤ 0
      rw [List.drop_eq_nil_of_le (Nat.le_of_eq Array.length_toList)]
      exact Nat.le_refl _
/-- 'throw new E()': new; dup; invokespecial; athrow -/
theorem vx_throw0 {cc : ByteArray} {pc : Nat} (hexec : p.tables.exec = Jvm.exec) (hb : c.code = cc) (hl : l.stackTraces = false) {own cls : String} {names : List String} {ik ic mc ms : Nat} {A : Nat → Prop}
    (hown : s.vm.findClass own = some m.cls) (hcls : Jvm.Bundle.fit cls = true) (hnames : ∀ n ∈ names, Jvm.Bundle.fit n = true)
    (hk : (Cond.classLink own ik cls).before args s = true) (hini : (Cond.initialized cls).before args s = true) (hat : ∀ w ∈ vx_at0 own ic cls names, w.before args s = true)
    (hgood : ∀ w ∈ Cond.classLink own ik cls :: Cond.initialized cls :: vx_at0 own ic cls names, vx_ot w = true)
    (hU : vx_Zq Jvm.Bundle.tN "UNASSIGNED_STACK" Jvm.Bundle.steD A s s.heap) (hN : vx_Zq Jvm.Bundle.tN "SUPPRESSED_SENTINEL" Jvm.Bundle.listD A s s.heap) (hS : va_S A s.heap H locs) (hsize : ls.size = c.maxLocals)
    (d0 : decode cc pc = .ok (.new ik, 3)) (d3 : decode cc (pc + 3) = .ok (.dup, 1)) (d4 : decode cc (pc + 4) = .ok (.invokespecial ic, 3)) (d7 : decode cc (pc + 7) = .ok (.athrow, 1))
    (hout : ∀ x ∈ c.exceptionTable.toList, covers x (pc + 7) = false)
    (hRframes : names.length + 3 < R.frames) (hRlocals : (rest.map fun v => v.category).sum + (13 * (names.length + 1) + 42) ≤ R.locals) (hRcells : cells + 1 ≤ R.cells) (hRslots : slots + 6 ≤ R.slots) (hlocks : meth.locks = false)
    (hx : ∀ t : State, s.vm.Alike t.vm → H.size ≤ t.heap.size → (∀ q : Nat, q < H.size → t.heap[q]? = H[q]?) → XC cls s t)
    (hf : ∀ z ∈ locs, free z.base) (hc : cells + 1 ≤ mc) (hs : slots + 6 ≤ ms) :
    W p l e R s m args below meth c H locs cells slots (vx_MQ below Qc XC args s mc ms free) (F0 m pc ls rest) := by
  intro T hT X
  have htr : e.platform.stackTraces = false := (show e.platform.stackTraces = l.stackTraces by rw [X.admits.platform]).trans hl
  have Y := vx_rebase X (R' := { frames := R.frames, locals := R.locals, cells := 1, slots := 6 }) (Nat.le_refl _) (Nat.le_refl _) hRcells hRslots
  obtain ⟨s', hA⟩ : ∃ z, z = (T.setVm s.vm).setFrames (.invoking m args :: below) := ⟨_, rfl⟩
  rw [← hA] at Y
  have hvm : s'.vm = s.vm := by rw [hA]; rfl
  have hhp : s'.heap = H := by rw [hA]; exact hT
  have hW0 : s.WarmedH s'.vm := by rw [hvm]; exact State.WarmedH.refl s
  have hat' : ∀ w ∈ vx_at0 own ic cls names, w.before args s' = true := fun w hw => vx_ot_at hW0 hvm.symm (hgood w (List.mem_cons_of_mem _ (List.mem_cons_of_mem _ hw))) (hat w hw)
  have hk' : (Cond.classLink own ik cls).before args s' = true := vx_ot_at hW0 hvm.symm (hgood _ List.mem_cons_self) hk
  have hini' : (Cond.initialized cls).before args s' = true := vx_ot_at hW0 hvm.symm (hgood _ (List.mem_cons_of_mem _ List.mem_cons_self)) hini
  have hU' : vx_Zq Jvm.Bundle.tN "UNASSIGNED_STACK" Jvm.Bundle.steD A s' s'.heap := by rw [hhp]; exact vx_Zq.moved hW0.alike (hU.kept hS.2.1)
  have hN' : vx_Zq Jvm.Bundle.tN "SUPPRESSED_SENTINEL" Jvm.Bundle.listD A s' s'.heap := by rw [hhp]; exact vx_Zq.moved hW0.alike (hN.kept hS.2.1)
  have h : ∀ w ∈ Jvm.Bundle.ownAtoms0 own ic cls names, w.before args s' = true := vx_own hat' (vx_isRefq hU'.1) (vx_isRefq hN'.1) hU'.2.word hN'.2.word
  have hown' : s'.vm.findClass own = some m.cls := by rw [hvm]; exact hown
  have hins : (Cond.instantiable cls 6).before args s' = true := h _ (by simp [Jvm.Bundle.ownAtoms0])
  obtain ⟨vm₁, cX, kX, hfX, hkX, -, -, X₁, st1⟩ := Y.newCold hexec (own := own) (C := cls) (index := ik) (n := 6) hown' hk' hins hini'
    (g := F0 m pc ls rest) rfl (by rw [hb]; exact d0) (Nat.le_refl _) (Nat.le_refl _)
  generalize hT1 : (T.setVm vm₁).pushCell { cls := cX, slots := kX.instanceTypes.map defaultValue, vm := .none } = T1 at X₁ st1
  have hcat : (Value.ref T.heap.size).category = 1 := rfl
  have hcellA : T1.heap[T.heap.size]? = some (freshCell cX kX) := by rw [← hT1]; exact State.heap_pushCell_size _ _
  have d3' : decode c.code (pc + 3) = .ok (.dup, 1) := by rw [hb]; exact d3
  obtain ⟨U, hsteps, hrun, hend, hW, hsame, ce, hce, hO⟩ := X₁.ctorThrow0 hexec htr (own := own) (cls := cls) (names := names) (ic := ic) hown' hcls hnames h (fun x hx => nomatch hx) hfX hkX hcellA (by rw [hhp, hT]; exact Nat.le_refl _)
    (g := { method := m, pc := pc + 4, locals := ls, stack := .ref T.heap.size :: .ref T.heap.size :: rest, locked := none }) rfl hsize rfl rfl (rest := rest) rfl
    (by rw [hb]; exact d4) (by rw [hb]; exact d7) hout hRframes (by simp only [List.map_cons, List.sum_cons, hcat]; omega) hlocks
  obtain ⟨f1, f2⟩ := vx_frame hsame
  rw [hhp] at f1 f2
  have hWs : s.WarmedH U.vm := State.WarmedH.trans hW0 hW
  have hcl : s.vm.findClass cls = some ce.cls := by
    have h9 := hO.cls
    rw [hvm] at h9
    exact h9
  have hall : s.sameButNew ({ U with vm := s.vm } : State) locs mc ms := by
    subst hA
    obtain ⟨e1, e2⟩ := hsame
    rw [State.setFrames_setFrames] at e1
    have h2 : (T.setVm s.vm).sameButNew ({ U with vm := s.vm } : State) [] (0 + 1) (0 + 6) := ⟨e1, e2⟩
    have h3 := X.same.trans h2
    rw [List.append_nil] at h3
    exact h3.mono hc hs
  refine ⟨U, ?_, .threw T.heap.size, hrun, hend, Or.inr ⟨T.heap.size, rfl, cls, ce, locs, hx U hWs.alike f1 (fun q hq => f2 q hq (fun z hz => nomatch hz)), hce, hO.vm, hcl, hWs, hall, hf⟩⟩
  refine st1 _ ?_
  show Steps p.tables e below (T1.setTop { method := m, pc := pc + 3, locals := ls, stack := .ref T.heap.size :: rest, locked := none }) _
  jvm_step X₁.here [X₁.here.top, hexec, d3', Value.category]
  exact hsteps
/-- 'throw new E("text")': new; dup; ldc; invokespecial; athrow -/
theorem vx_throwS {cc : ByteArray} {pc : Nat} (hexec : p.tables.exec = Jvm.exec) (hb : c.code = cc) (hl : l.stackTraces = false) {own cls text : String} {names : List String} {ik is ic mc ms sa : Nat} {A : Nat → Prop}
    (hown : s.vm.findClass own = some m.cls) (hcls : Jvm.Bundle.fit cls = true) (hnames : ∀ n ∈ names, Jvm.Bundle.fit n = true)
    (hk : (Cond.classLink own ik cls).before args s = true) (hini : (Cond.initialized cls).before args s = true) (hstr : vk_R own is text sa s) (hat : ∀ w ∈ vx_atS own ic cls names, w.before args s = true)
    (hgood : ∀ w ∈ Cond.classLink own ik cls :: Cond.initialized cls :: vx_atS own ic cls names, vx_ot w = true)
    (hU : vx_Zq Jvm.Bundle.tN "UNASSIGNED_STACK" Jvm.Bundle.steD A s s.heap) (hN : vx_Zq Jvm.Bundle.tN "SUPPRESSED_SENTINEL" Jvm.Bundle.listD A s s.heap) (hS : va_S A s.heap H locs) (hsize : ls.size = c.maxLocals)
    (d0 : decode cc pc = .ok (.new ik, 3)) (d3 : decode cc (pc + 3) = .ok (.dup, 1)) (d4 : decode cc (pc + 4) = .ok (.ldc is, 2)) (d6 : decode cc (pc + 6) = .ok (.invokespecial ic, 3)) (d9 : decode cc (pc + 9) = .ok (.athrow, 1))
    (hout : ∀ x ∈ c.exceptionTable.toList, covers x (pc + 9) = false)
    (hRframes : names.length + 3 < R.frames) (hRlocals : (rest.map fun v => v.category).sum + (13 * (names.length + 1) + 43) ≤ R.locals) (hRcells : cells + 1 ≤ R.cells) (hRslots : slots + 6 ≤ R.slots) (hlocks : meth.locks = false)
    (hx : ∀ t : State, s.vm.Alike t.vm → H.size ≤ t.heap.size → (∀ q : Nat, q < H.size → t.heap[q]? = H[q]?) → XC cls s t)
    (hf : ∀ z ∈ locs, free z.base) (hc : cells + 1 ≤ mc) (hs : slots + 6 ≤ ms) :
    W p l e R s m args below meth c H locs cells slots (vx_MQ below Qc XC args s mc ms free) (F0 m pc ls rest) := by
  intro T hT X
  have htr : e.platform.stackTraces = false := (show e.platform.stackTraces = l.stackTraces by rw [X.admits.platform]).trans hl
  have Y := vx_rebase X (R' := { frames := R.frames, locals := R.locals, cells := 1, slots := 6 }) (Nat.le_refl _) (Nat.le_refl _) hRcells hRslots
  obtain ⟨s', hA⟩ : ∃ z, z = (T.setVm s.vm).setFrames (.invoking m args :: below) := ⟨_, rfl⟩
  rw [← hA] at Y
  have hvm : s'.vm = s.vm := by rw [hA]; rfl
  have hhp : s'.heap = H := by rw [hA]; exact hT
  have hW0 : s.WarmedH s'.vm := by rw [hvm]; exact State.WarmedH.refl s
  have hat' : ∀ w ∈ vx_atS own ic cls names, w.before args s' = true := fun w hw => vx_ot_at hW0 hvm.symm (hgood w (List.mem_cons_of_mem _ (List.mem_cons_of_mem _ hw))) (hat w hw)
  have hk' : (Cond.classLink own ik cls).before args s' = true := vx_ot_at hW0 hvm.symm (hgood _ List.mem_cons_self) hk
  have hini' : (Cond.initialized cls).before args s' = true := vx_ot_at hW0 hvm.symm (hgood _ (List.mem_cons_of_mem _ List.mem_cons_self)) hini
  have hU' : vx_Zq Jvm.Bundle.tN "UNASSIGNED_STACK" Jvm.Bundle.steD A s' s'.heap := by rw [hhp]; exact vx_Zq.moved hW0.alike (hU.kept hS.2.1)
  have hN' : vx_Zq Jvm.Bundle.tN "SUPPRESSED_SENTINEL" Jvm.Bundle.listD A s' s'.heap := by rw [hhp]; exact vx_Zq.moved hW0.alike (hN.kept hS.2.1)
  have h : ∀ w ∈ Jvm.Bundle.ownAtoms own ic cls names, w.before args s' = true := vx_own hat' (vx_isRefq hU'.1) (vx_isRefq hN'.1) hU'.2.word hN'.2.word
  have hown' : s'.vm.findClass own = some m.cls := by rw [hvm]; exact hown
  have hins : (Cond.instantiable cls 6).before args s' = true := h _ (by simp [Jvm.Bundle.ownAtoms])
  obtain ⟨vm₁, cX, kX, hfX, hkX, -, -, X₁, st1⟩ := Y.newCold hexec (own := own) (C := cls) (index := ik) (n := 6) hown' hk' hins hini'
    (g := F0 m pc ls rest) rfl (by rw [hb]; exact d0) (Nat.le_refl _) (Nat.le_refl _)
  generalize hT1 : (T.setVm vm₁).pushCell { cls := cX, slots := kX.instanceTypes.map defaultValue, vm := .none } = T1 at X₁ st1
  have hcat : (Value.ref T.heap.size).category = 1 := rfl
  have hcellA : T1.heap[T.heap.size]? = some (freshCell cX kX) := by rw [← hT1]; exact State.heap_pushCell_size _ _
  have d3' : decode c.code (pc + 3) = .ok (.dup, 1) := by rw [hb]; exact d3
  have d4' : decode c.code (pc + 4) = .ok (.ldc is, 2) := by rw [hb]; exact d4
  have hstr' : vk_R own is text sa s' := vk_R.warm hW0 hstr
  obtain ⟨U, hsteps, hrun, hend, hW, hsame, ce, hce, hO⟩ := X₁.ctorThrowS hexec htr (own := own) (cls := cls) (names := names) (ic := ic) hown' hcls hnames h (fun x hx => nomatch hx) hfX hkX hcellA (by rw [hhp, hT]; exact Nat.le_refl _) (msg := .ref sa) rfl
    (g := { method := m, pc := pc + 6, locals := ls, stack := .ref sa :: .ref T.heap.size :: .ref T.heap.size :: rest, locked := none }) rfl hsize rfl rfl (rest := rest) rfl
    (by rw [hb]; exact d6) (by rw [hb]; exact d9) hout hRframes (by simp only [List.map_cons, List.sum_cons, hcat]; omega) hlocks
  obtain ⟨f1, f2⟩ := vx_frame hsame
  rw [hhp] at f1 f2
  have hWs : s.WarmedH U.vm := State.WarmedH.trans hW0 hW
  have hcl : s.vm.findClass cls = some ce.cls := by
    have h9 := hO.cls
    rw [hvm] at h9
    exact h9
  have hall : s.sameButNew ({ U with vm := s.vm } : State) locs mc ms := by
    subst hA
    obtain ⟨e1, e2⟩ := hsame
    rw [State.setFrames_setFrames] at e1
    have h2 : (T.setVm s.vm).sameButNew ({ U with vm := s.vm } : State) [] (0 + 1) (0 + 6) := ⟨e1, e2⟩
    have h3 := X.same.trans h2
    rw [List.append_nil] at h3
    exact h3.mono hc hs
  refine ⟨U, ?_, .threw T.heap.size, hrun, hend, Or.inr ⟨T.heap.size, rfl, cls, ce, locs, hx U hWs.alike f1 (fun q hq => f2 q hq (fun z hz => nomatch hz)), hce, hO.vm, hcl, hWs, hall, hf⟩⟩
  refine st1 _ ?_
  show Steps p.tables e below (T1.setTop { method := m, pc := pc + 3, locals := ls, stack := .ref T.heap.size :: rest, locked := none }) _
  jvm_step X₁.here [X₁.here.top, hexec, d3', Value.category]
  exact X₁.ldcString hexec (own := own) (text := text) (index := is) (a := sa) hown' hstr'.1 hstr'.2
    (g := { method := m, pc := pc + 4, locals := ls, stack := .ref T.heap.size :: .ref T.heap.size :: rest, locked := none }) rfl d4' _ hsteps
/-- 'throw new E("text")', the text by a wide index -/
theorem vx_throwSW {cc : ByteArray} {pc : Nat} (hexec : p.tables.exec = Jvm.exec) (hb : c.code = cc) (hl : l.stackTraces = false) {own cls text : String} {names : List String} {ik is ic mc ms sa : Nat} {A : Nat → Prop}
    (hown : s.vm.findClass own = some m.cls) (hcls : Jvm.Bundle.fit cls = true) (hnames : ∀ n ∈ names, Jvm.Bundle.fit n = true)
    (hk : (Cond.classLink own ik cls).before args s = true) (hini : (Cond.initialized cls).before args s = true) (hstr : vk_R own is text sa s) (hat : ∀ w ∈ vx_atS own ic cls names, w.before args s = true)
    (hgood : ∀ w ∈ Cond.classLink own ik cls :: Cond.initialized cls :: vx_atS own ic cls names, vx_ot w = true)
    (hU : vx_Zq Jvm.Bundle.tN "UNASSIGNED_STACK" Jvm.Bundle.steD A s s.heap) (hN : vx_Zq Jvm.Bundle.tN "SUPPRESSED_SENTINEL" Jvm.Bundle.listD A s s.heap) (hS : va_S A s.heap H locs) (hsize : ls.size = c.maxLocals)
    (d0 : decode cc pc = .ok (.new ik, 3)) (d3 : decode cc (pc + 3) = .ok (.dup, 1)) (d4 : decode cc (pc + 4) = .ok (.ldc_w is, 3)) (d7 : decode cc (pc + 7) = .ok (.invokespecial ic, 3)) (d10 : decode cc (pc + 10) = .ok (.athrow, 1))
    (hout : ∀ x ∈ c.exceptionTable.toList, covers x (pc + 10) = false)
    (hRframes : names.length + 3 < R.frames) (hRlocals : (rest.map fun v => v.category).sum + (13 * (names.length + 1) + 43) ≤ R.locals) (hRcells : cells + 1 ≤ R.cells) (hRslots : slots + 6 ≤ R.slots) (hlocks : meth.locks = false)
    (hx : ∀ t : State, s.vm.Alike t.vm → H.size ≤ t.heap.size → (∀ q : Nat, q < H.size → t.heap[q]? = H[q]?) → XC cls s t)
    (hf : ∀ z ∈ locs, free z.base) (hc : cells + 1 ≤ mc) (hs : slots + 6 ≤ ms) :
    W p l e R s m args below meth c H locs cells slots (vx_MQ below Qc XC args s mc ms free) (F0 m pc ls rest) := by
  intro T hT X
  have htr : e.platform.stackTraces = false := (show e.platform.stackTraces = l.stackTraces by rw [X.admits.platform]).trans hl
  have Y := vx_rebase X (R' := { frames := R.frames, locals := R.locals, cells := 1, slots := 6 }) (Nat.le_refl _) (Nat.le_refl _) hRcells hRslots
  obtain ⟨s', hA⟩ : ∃ z, z = (T.setVm s.vm).setFrames (.invoking m args :: below) := ⟨_, rfl⟩
  rw [← hA] at Y
  have hvm : s'.vm = s.vm := by rw [hA]; rfl
  have hhp : s'.heap = H := by rw [hA]; exact hT
  have hW0 : s.WarmedH s'.vm := by rw [hvm]; exact State.WarmedH.refl s
  have hat' : ∀ w ∈ vx_atS own ic cls names, w.before args s' = true := fun w hw => vx_ot_at hW0 hvm.symm (hgood w (List.mem_cons_of_mem _ (List.mem_cons_of_mem _ hw))) (hat w hw)
  have hk' : (Cond.classLink own ik cls).before args s' = true := vx_ot_at hW0 hvm.symm (hgood _ List.mem_cons_self) hk
  have hini' : (Cond.initialized cls).before args s' = true := vx_ot_at hW0 hvm.symm (hgood _ (List.mem_cons_of_mem _ List.mem_cons_self)) hini
  have hU' : vx_Zq Jvm.Bundle.tN "UNASSIGNED_STACK" Jvm.Bundle.steD A s' s'.heap := by rw [hhp]; exact vx_Zq.moved hW0.alike (hU.kept hS.2.1)
  have hN' : vx_Zq Jvm.Bundle.tN "SUPPRESSED_SENTINEL" Jvm.Bundle.listD A s' s'.heap := by rw [hhp]; exact vx_Zq.moved hW0.alike (hN.kept hS.2.1)
  have h : ∀ w ∈ Jvm.Bundle.ownAtoms own ic cls names, w.before args s' = true := vx_own hat' (vx_isRefq hU'.1) (vx_isRefq hN'.1) hU'.2.word hN'.2.word
  have hown' : s'.vm.findClass own = some m.cls := by rw [hvm]; exact hown
  have hins : (Cond.instantiable cls 6).before args s' = true := h _ (by simp [Jvm.Bundle.ownAtoms])
  obtain ⟨vm₁, cX, kX, hfX, hkX, -, -, X₁, st1⟩ := Y.newCold hexec (own := own) (C := cls) (index := ik) (n := 6) hown' hk' hins hini'
    (g := F0 m pc ls rest) rfl (by rw [hb]; exact d0) (Nat.le_refl _) (Nat.le_refl _)
  generalize hT1 : (T.setVm vm₁).pushCell { cls := cX, slots := kX.instanceTypes.map defaultValue, vm := .none } = T1 at X₁ st1
  have hcat : (Value.ref T.heap.size).category = 1 := rfl
  have hcellA : T1.heap[T.heap.size]? = some (freshCell cX kX) := by rw [← hT1]; exact State.heap_pushCell_size _ _
  have d3' : decode c.code (pc + 3) = .ok (.dup, 1) := by rw [hb]; exact d3
  have d4' : decode c.code (pc + 4) = .ok (.ldc_w is, 3) := by rw [hb]; exact d4
  have hstr' : vk_R own is text sa s' := vk_R.warm hW0 hstr
  obtain ⟨U, hsteps, hrun, hend, hW, hsame, ce, hce, hO⟩ := X₁.ctorThrowS hexec htr (own := own) (cls := cls) (names := names) (ic := ic) hown' hcls hnames h (fun x hx => nomatch hx) hfX hkX hcellA (by rw [hhp, hT]; exact Nat.le_refl _) (msg := .ref sa) rfl
    (g := { method := m, pc := pc + 7, locals := ls, stack := .ref sa :: .ref T.heap.size :: .ref T.heap.size :: rest, locked := none }) rfl hsize rfl rfl (rest := rest) rfl
    (by rw [hb]; exact d7) (by rw [hb]; exact d10) hout hRframes (by simp only [List.map_cons, List.sum_cons, hcat]; omega) hlocks
  obtain ⟨f1, f2⟩ := vx_frame hsame
  rw [hhp] at f1 f2
  have hWs : s.WarmedH U.vm := State.WarmedH.trans hW0 hW
  have hcl : s.vm.findClass cls = some ce.cls := by
    have h9 := hO.cls
    rw [hvm] at h9
    exact h9
  have hall : s.sameButNew ({ U with vm := s.vm } : State) locs mc ms := by
    subst hA
    obtain ⟨e1, e2⟩ := hsame
    rw [State.setFrames_setFrames] at e1
    have h2 : (T.setVm s.vm).sameButNew ({ U with vm := s.vm } : State) [] (0 + 1) (0 + 6) := ⟨e1, e2⟩
    have h3 := X.same.trans h2
    rw [List.append_nil] at h3
    exact h3.mono hc hs
  refine ⟨U, ?_, .threw T.heap.size, hrun, hend, Or.inr ⟨T.heap.size, rfl, cls, ce, locs, hx U hWs.alike f1 (fun q hq => f2 q hq (fun z hz => nomatch hz)), hce, hO.vm, hcl, hWs, hall, hf⟩⟩
  refine st1 _ ?_
  show Steps p.tables e below (T1.setTop { method := m, pc := pc + 3, locals := ls, stack := .ref T.heap.size :: rest, locked := none }) _
  jvm_step X₁.here [X₁.here.top, hexec, d3', Value.category]
  exact X₁.ldcStringW hexec (own := own) (text := text) (index := is) (a := sa) hown' hstr'.1 hstr'.2
    (g := { method := m, pc := pc + 4, locals := ls, stack := .ref T.heap.size :: .ref T.heap.size :: rest, locked := none }) rfl d4' _ hsteps
end Ends
section Bodies
variable {l : Launch}
theorem vx_ofW {y : MethodName} {ws ws' : List Cond} {rm : Room} {Pc : Array Value → State → Prop} {Qc : Array Value → State → Outcome → State → Prop} {XC : String → State → State → Prop} {mc ms : Nat} {free : Addr → Prop} {cc : ByteArray} {maxL : Nat} {ret : Option FieldType}
    (hy : plainName y.cls = true) (hw : ws = Cond.code y cc maxL ret :: ws')
    (body : ∀ p e s m args below meth c s₁, BodyLoose p l y (headSpec ws rm) cc maxL ret e s m args below meth c s₁ → c.maxLocals = maxL → (∀ x ∈ c.exceptionTable.toList, False) → Pc args s →
      W p l e (headSpec ws rm).room s m args below meth c s.heap [] 0 0 (vx_MQ below Qc XC args s mc ms free) (entryFrame m args maxL)) : vx_Met l y ws rm Pc Qc XC mc ms free := by
  refine MetFree.of_bodyS (code := cc) (maxLocals := maxL) (ret := ret) hy ?_ ?_
  · intro args s m h hn
    obtain ⟨meth, c, h1, h2, h3, h4, h5, h6, -, -⟩ := Cond.code_spec hn (atoms_spec (ws := ws) h _ (by rw [hw]; exact List.mem_cons_self))
    exact ⟨meth, c, h1, h2, h3, h4, h5, h6⟩
  · intro p e s m args below meth c s₁ B hml hP _
    have hh0 : s₁.heap = s.heap := by rw [B.state]; rfl
    have ht : ∀ x ∈ c.exceptionTable.toList, False := by
      obtain ⟨meth9, c9, h1, h2, -, -, -, -, h7, -⟩ := Cond.code_spec B.named (atoms_spec (ws := ws) B.pre _ (by rw [hw]; exact List.mem_cons_self))
      cases Option.some.inj (h1.symm.trans B.method)
      cases Option.some.inj (h2.symm.trans (Stand.of_body B).code)
      intro x hx
      rw [Array.isEmpty_iff.mp h7] at hx
      cases hx
    obtain ⟨t, a1, o, b1, b2, b3⟩ := body p e s m args below meth c s₁ B hml ht hP s₁ hh0 (Stand.of_body B)
    exact ⟨t, o, a1, b1, b2, b3⟩
/-- the table of a body with handlers -/
theorem vx_table {p : Program} {x y : MethodName} {S : Spec} {cc bytes : ByteArray} {maxL maxL' : Nat} {ret ret' : Option FieldType} {e : Env} {s s₁ : State} {m : MethodId} {args : Array Value} {below : List Frame} {meth : Method} {c : Code} {hh : List (Nat × Nat × Nat × Nat)}
    (B : BodyLoose p l y S cc maxL ret e s m args below meth c s₁) (h : (Cond.codeWith y bytes maxL' ret' hh).before args s = true) : c.exceptionTable.toList = tableOf hh := by
  obtain ⟨m9, meth9, c9, hn9, h1, h2, -, -, h6, -⟩ := Cond.codeWith_spec h
  cases Option.some.inj (hn9.symm.trans B.named)
  cases Option.some.inj (h1.symm.trans B.method)
  cases Option.some.inj (h2.symm.trans (Stand.of_body B).code)
  rw [← h6, table_eq]
end Bodies
end VXA
/-! ===== END ===== -/
/-! ===== BEGIN a static call of a method with an exception table ===== -/
section VXS
variable {p : Program} {l : Launch} {e : Env} {R : Room} {s : State} {m : MethodId} {args : Array Value} {below : List Frame} {meth : Method} {c : Code} {T : State} {H : Heap} {locs : List Loc} {cells slots : Nat}
abbrev vx_CSW (R : Room) (s : State) (args : Array Value) (own : String) (index : Nat) (y : MethodName) (bytes : ByteArray) (maxL : Nat) (ret : Option FieldType) (hh : List (Nat × Nat × Nat × Nat)) (ws : List Cond) (rm : Room) (mc ms n : Nat) : Prop :=
  (rm.cells = mc ∧ rm.slots = ms ∧ rm.frames + 1 ≤ R.frames ∧ 8 + (maxL + 11) + rm.locals ≤ R.locals ∧ (∀ w ∈ ws, ∀ (a' : Array Value) (U : State), s.WarmedH U.vm → w.before a' U = true) ∧ Cond.codeWith y bytes maxL ret hh ∈ ws) ∧
  (Cond.codeWith y bytes maxL ret hh).before args s = true ∧ (Cond.initialized y.cls).before args s = true ∧ (y.cls ≠ "java/lang/invoke/MethodHandle" ∧ y.cls ≠ "java/lang/invoke/VarHandle") ∧
  (∀ sig, parseMethodDescriptor y.desc = some sig → n = sig.parameters.length) ∧ (Cond.methodLink own index y).before args s = true ∧ (Cond.static y).before args s = true
theorem vx_cwSW {own : String} {index maxL mc ms : Nat} {y : MethodName} {bytes : ByteArray} {ret : Option FieldType} {hh : List (Nat × Nat × Nat × Nat)} {Ts ws ws' : List Cond} {rm : Room} (n : Nat) (ht : ∀ w ∈ Ts, w.before args s = true) (hT : GoodIn Ts (va_wsS own index y ws)) (hw : ws = Cond.codeWith y bytes maxL ret hh :: ws') (hrc : rm.cells = mc) (hrs : rm.slots = ms)
    (hd : y.cls ≠ "java/lang/invoke/MethodHandle" ∧ y.cls ≠ "java/lang/invoke/VarHandle" ∧ (parseMethodDescriptor y.desc).map (fun d => d.parameters.length) = some n) (hR : rm.frames + 1 ≤ R.frames ∧ 8 + (maxL + 11) + rm.locals ≤ R.locals) :
    vx_CSW R s args own index y bytes maxL ret hh ws rm mc ms n := by
  have ok : ∀ w ∈ va_wsS own index y ws, w.before args s = true := fun w h => ht w (hT w h).1
  have hG : GoodIn Ts ws := fun w h => hT w (by unfold va_wsS; exact List.mem_append_right _ h)
  have hc : Cond.codeWith y bytes maxL ret hh ∈ ws := by rw [hw]; exact List.mem_cons_self
  refine ⟨⟨hrc, hrs, hR.1, hR.2, pay_in ht hG, hc⟩, ht _ (hG _ hc).1, ok _ (by simp [va_wsS]), ⟨hd.1, hd.2.1⟩, fun sig h => ?_, ok _ (by simp [va_wsS]), ok _ (by simp [va_wsS])⟩
  have h2 := hd.2.2
  rw [h] at h2
  exact (Option.some.inj h2).symm
theorem vx_callSW (X : Stand p l e R s m args below meth c T locs cells slots) (hexec : p.tables.exec = Jvm.exec) {own : String} {index : Nat} {y : MethodName} {bytes : ByteArray} {maxL : Nat} {ret : Option FieldType} {hh : List (Nat × Nat × Nat × Nat)}
    (hown : s.vm.findClass own = some m.cls) (hlink : (Cond.methodLink own index y).before args s = true) (hstat : (Cond.static y).before args s = true) (hinit : (Cond.initialized y.cls).before args s = true)
    (hcode : (Cond.codeWith y bytes maxL ret hh).before args s = true) (hy : y.cls ≠ "java/lang/invoke/MethodHandle" ∧ y.cls ≠ "java/lang/invoke/VarHandle")
    {W9 : Nat} {Pre : Pt → Array Value → Prop} {Post : Pt → Array Value → Option Value → Pt → Prop} (hK : Back l R p e below s args y 3 W9 Pre Post)
    {g : JFrame} (hg : g.method = m) (hsize : g.locals.size = c.maxLocals) {argsL rest : List Value} (hlen : ∀ sig, parseMethodDescriptor y.desc = some sig → argsL.length = sig.parameters.length)
    (hstack : g.stack = argsL.reverse ++ rest) (hW : 2 * g.monitorRoom + (rest.map fun v => v.category).sum ≤ W9) (hdg : decode c.code g.pc = .ok (.invokestatic index, 3))
    (hpre : ∀ vm₁, s.WarmedH vm₁ → Pre ⟨T.setVm vm₁, locs, cells, slots⟩ argsL.toArray) :
    ∃ (v : Option Value) (vm₁ : Vm) (B : Pt), s.WarmedH vm₁ ∧ Stand p l e R s m args below meth c B.U B.locs B.cells B.slots ∧ Post ⟨T.setVm vm₁, locs, cells, slots⟩ argsL.toArray v B ∧
      ∀ target, Steps p.tables e below (B.U.setTop { g with pc := g.pc + 3, stack := v.toList ++ rest }) target → Steps p.tables e below (T.setTop g) target := by
  obtain ⟨mk, methM, cM, hnamed, hmethM, -, -, -, -, -, -, hsigM⟩ := Cond.codeWith_spec hcode
  have hstatic : methM.isStatic = true := Cond.static_spec hnamed hmethM hstat
  obtain ⟨kP, hkP, -⟩ := className_of_methodNamed hnamed
  have hinitP : kP.init = .initialized := Cond.initialized_spec (findClass_of_methodNamed hnamed) hkP hinit
  obtain ⟨vm₁, X₁, hstep₁⟩ := X.invokestatic hexec hown hlink hnamed hmethM hstatic hkP hinitP hy (g := g) hg (argsL := argsL) (rest := rest) (hlen _ hsigM) hstack hdg
  obtain ⟨v, B, X', hpost, hsteps⟩ := hK m meth c ⟨T.setVm vm₁, locs, cells, slots⟩ { g with stack := rest } (.invokestatic index) mk argsL.toArray X₁ hg hsize hdg hW (X₁.named hnamed) (hpre vm₁ X₁.warmed)
  exact ⟨v, vm₁, B, X₁.warmed, X', hpost, fun target h => hstep₁ _ fun acts => by rw [doInvoke_state]; exact hsteps.trans h⟩
theorem vx_runSW {y : MethodName} {bytes cc : ByteArray} {maxL nL mc ms n index : Nat} {ret : Option FieldType} {hh : List (Nat × Nat × Nat × Nat)} {ws : List Cond} {rm : Room} {Pc : Array Value → State → Prop} {Qc : Array Value → State → Outcome → State → Prop} {free : Addr → Prop} {Ts : List Cond} {own : String} {As rest : List Value} {g : JFrame}
    (S : CallFix p m c cc nL s args Ts own) (hM : Met l y ws rm Pc Qc mc ms free) (cw : vx_CSW R s args own index y bytes maxL ret hh ws rm mc ms n) (hp : PreS s H Pc As)
    (hg : g.method = m) (hn : As.length = n) (hsize : g.locals.size = nL) (hstack : g.stack = As.reverse ++ rest) (hW : 2 * g.monitorRoom + (rest.map fun v => v.category).sum ≤ 8) (hdg : decode cc g.pc = .ok (.invokestatic index, 3)) (hf : cells + mc ≤ R.cells ∧ slots + ms ≤ R.slots) :
    va_Run p l e R s m args below meth c H locs cells slots mc ms g rest (Qc As.toArray) (free) := by
  obtain ⟨⟨hrc, hrs, hfr, hlo, hws, hcw⟩, hcode, hini, hy, hlen, hl, hstt⟩ := cw
  have hK : Back l R p e below s args y 3 8 (PreOf R mc ms Pc) (PostOf Qc mc ms free) := va_backW (hh := hh) (bytes := bytes) (maxL := maxL) (ret := ret) hM hp.1 hrc hrs hfr hlo hws hcw (fun a' U hW => word_at hW (Or.inl (by first | rfl | simp [Cond.onTables, Cond.keeps, Cond.steady])) hini)
  obtain ⟨hx, hb, hml, ho, -⟩ := S
  intro T hT X
  obtain ⟨v, vm₁, ⟨U', l2, c2, s2⟩, hW₁, X', ⟨g', mk, t, L, e1, e2, hq, h1, hL, h2, h3⟩, st⟩ := vx_callSW X hx (hh := hh) (bytes := bytes) (maxL := maxL) (ret := ret) ho hl hstt hini hcode hy hK hg (hsize.trans hml.symm) (argsL := As) (rest := rest) (fun sig h => hn.trans (hlen sig h)) hstack hW (by rw [hb]; exact hdg)
    (fun vm₁ hW₁ => ⟨hf.1, hf.2, hp.2 (T.setVm vm₁) hT hW₁⟩)
  dsimp only [Pt.U, Pt.locs, Pt.cells, Pt.slots] at X' e1 e2 h1 h2 h3 st
  subst h1; subst h2; subst h3
  exact ⟨v, (T.setVm vm₁).calling g' mk As.toArray, t, U', L, hT, X', hL, e1, e2, hq, st⟩
/-- not caught here, past rows that name other classes: it goes on to the caller -/
theorem vx_outP {p : Program} {l : Launch} {e : Env} {R : Room} {s : State} {m : MethodId} {args : Array Value} {below : List Frame} {meth : Method} {c : Code} {H : Heap} {locs : List Loc} {cells slots : Nat} {free : Addr → Prop} {ls : Array Slot} {rest : List Value} {Qc : Array Value → State → Outcome → State → Prop} {XC : String → State → State → Prop}
    {pc : Nat} {own E : String} {ce : Cell} {q : Addr} {mc ms : Nat} (hown : s.vm.findClass own = some m.cls) (hlocks : meth.locks = false)
    (hpass : ∀ z ∈ c.exceptionTable.toList, covers z pc = false ∨ (z.catchType ≠ 0 ∧ ∃ nm : String, (Cond.classLink own z.catchType nm).before args s = true ∧ va_Nc E nm s)) (hcell : H[q]? = some ce) (hv : ce.vm = .none) (hcl : s.vm.findClass E = some ce.cls)
    (hx : ∀ t : State, t.heap = H → s.vm.Alike t.vm → XC E s t) (hf : ∀ z ∈ locs, free z.base) (hc : cells ≤ mc) (hs : slots ≤ ms) :
    vx_W p l e R s m args below meth c H locs cells slots (vx_MQ below Qc XC args s mc ms free) (F0 m pc ls rest) q := by
  intro T hT X
  have hpl : e.platform.magicAccessors = ({} : Platform).magicAccessors := by rw [X.admits.platform]
  obtain ⟨vm', hW', X', st⟩ := X.outThrough hlocks q (g := F0 m pc ls rest) rfl rfl rfl (cell := ce) (by rw [hT]; exact hcell) (by rw [hv]; rfl)
    (by obtain ⟨k9, h9, -⟩ := Vm.findClass_spec hcl; exact ⟨k9, h9⟩) (fun z hz => by
      rcases hpass z hz with h | ⟨hz0, nm, hl1, hn1⟩
      · exact Or.inl h
      · obtain ⟨c6, hc6, hcl6⟩ := Cond.classLink_spec hown hl1 e.platform hpl
        obtain ⟨a8, b8, h1, h2, h3⟩ := hn1
        cases Option.some.inj (h1.symm.trans hcl)
        cases Option.some.inj (h2.symm.trans hc6)
        exact Or.inr ⟨hz0, _, hcl6, h3⟩)
  obtain ⟨g₀, hfr⟩ := X'.frames_eq
  have hcell9 : ((T.setVm vm').setFrames (.throwing q :: below)).heap[q]? = some ce := by
    show T.heap[q]? = some ce
    rw [hT]; exact hcell
  have hend : Ended ((T.setVm vm').setFrames (.throwing q :: below)) below (.threw q) := State.frames_setFrames _ (State.cur_lt_of_frames hfr)
  refine ⟨(T.setVm vm').setFrames (.throwing q :: below), ?_, .threw q, X'.here.running, hend, Or.inr ⟨q, rfl, E, ce, locs, hx _ hT (X'.ends _).1.alike, hcell9, hv, hcl, (X'.ends _).1, (X'.ends _).2.mono hc hs, hf⟩⟩
  rw [X.pushThrowing_eq]
  exact st
/-- a thing of a world lies in the heap -/
theorem vx_lt {D : va_G} {cl : List vw_C} {ws : va_W} {H1 : Heap} (h : va_P D cl ws H1) {k : Nat} {q : Nat × va_E} (hk : ws[k]? = some q) : q.1 < H1.size := (h k q hk).lt
end VXS
/-! ===== END ===== -/
/-! ===== BEGIN methods with a table of their own: called by a name, returning or throwing ===== -/
section VXH
/-! vx_backW, vx_callVX, vx_callSX, vx_callVW, vx_runVW, vx_runVX, vx_runSX, vx_ofWH follow the same proofs as their sisters above (Free/Laws.lean, Shelf42/LK1.lean); vx_outP calls Shelf42/NT130.lean (outThrough). -/
section
variable {l : Launch} {R : Room} {p : Program} {e : Env} {below : List Frame} {s : State} {sargs : Array Value} {y : MethodName} {len W9 : Nat}
theorem vx_backW {ws : List Cond} {rm : Room} {Pc : Array Value → State → Prop} {Qc : Array Value → State → Outcome → State → Prop} {XC : String → State → State → Prop} {mc ms : Nat} {free : Addr → Prop} {bytes : ByteArray} {maxL : Nat} {ret : Option FieldType} {hh : List (Nat × Nat × Nat × Nat)}
    (hM : vx_Met l y ws rm Pc Qc XC mc ms free) (hblind : FrameBlind Pc) (hrc : rm.cells = mc) (hrs : rm.slots = ms)
    (hframes : rm.frames + 1 ≤ R.frames) (hlocals : W9 + (maxL + 11) + rm.locals ≤ R.locals)
    (hws : ∀ w ∈ ws, ∀ a' U, s.WarmedH U.vm → w.before a' U = true) (hcode : Cond.codeWith y bytes maxL ret hh ∈ ws) (hinit : ∀ a' U, s.WarmedH U.vm → (Cond.initialized y.cls).before a' U = true) :
    vx_Back l R p e below s sargs y len W9 (PreOf R mc ms Pc) (PostOf Qc mc ms free) (vx_Post XC mc ms free) := by
  intro m meth c A g ig mk a X hg hsize hdg hW hn hp
  have h1 : (headSpec ws rm).pre.before a A.U = true := atoms_intro fun w hw => hws w hw _ _ X.warmed
  have h2 : (Cond.codeWith y bytes maxL ret hh).before a A.U = true := hws _ hcode _ _ X.warmed
  have h3 : (Cond.initialized y.cls).before a A.U = true := hinit _ _ X.warmed
  have h4 : A.cells + (headSpec ws rm).room.cells ≤ R.cells := by rw [show (headSpec ws rm).room.cells = mc from hrc]; exact hp.1
  have h5 : A.slots + (headSpec ws rm).room.slots ≤ R.slots := by rw [show (headSpec ws rm).room.slots = ms from hrs]; exact hp.2.1
  have hPc : Pc a (A.U.calling g mk a) := hblind _ _ _ _ hp.2.2
  obtain ⟨U, Ls, c0, s0⟩ := A
  dsimp only [Pt.U, Pt.locs, Pt.cells, Pt.slots] at h1 h2 h3 h4 h5 X hn hPc ⊢
  obtain ⟨m9, methY, cY, hn9, hmY, hcY, -, hlY, -⟩ := Cond.codeWith_spec h2
  cases Option.some.inj (hn9.symm.trans hn)
  obtain ⟨kY, hkY, -⟩ := className_of_methodNamed hn
  have hinitY : kY.init = .initialized := Cond.initialized_spec (findClass_of_methodNamed hn) hkY h3
  have h : At U g.method c below := by rw [hg]; exact X.here
  have hlocals9 : W9 + (maxL + 11) + (headSpec ws rm).room.locals ≤ R.locals := hlocals
  have happ : (headSpec ws rm).appliesLoose y e.platform (U.calling g mk a) = true :=
    Spec.appliesLoose_calling (g := g) h hdg hn hkY hinitY
      (X.room_calling (g := g) (R' := (headSpec ws rm).room) hsize hmY hcY hframes (by rw [hlY]; omega) h4 h5) h1
  obtain ⟨mid, hmid⟩ := h.above
  have hfr : (U.setTop g).frames = (.java g :: mid) ++ below := by rw [State.frames_setTop' g h.top, hmid]; rfl
  obtain ⟨o, s₂, hsteps, -, hend, hq⟩ := Steps.callFree hM p X.admits X.cas X.clock (acts := []) hfr happ hPc trivial
  have hq' : vx_Q Qc XC mc ms free a (U.calling g mk a) o s₂ := hq
  rw [State.frames_setTop' g h.top] at hend
  obtain ⟨g₀, hg0⟩ := Option.isSome_iff_exists.mp h.top
  obtain ⟨r, hr⟩ := State.topJava?_eq_some.mp hg0
  have hr' : (({ U with heap := s₂.heap, slotsUsed := s₂.slotsUsed } : State).setVm s₂.vm).frames = .java g₀ :: r := hr
  rcases hq' with ⟨hqc, L, hfe, hL⟩ | ⟨q, rfl, E, ce, L, hx, hce, hcv, hcl, hW₂, hsm, hL⟩
  · obtain ⟨⟨v, rfl⟩, hW₂, e2, q2, q3, q4, q5, q6⟩ := id hfe
    have e3 : s₂ = ({ (U.calling g mk a).setFrames s₂.frames with heap := s₂.heap, slotsUsed := s₂.slotsUsed } : State).setVm s₂.vm := by
      have : s₂ = ({ s₂ with vm := (U.calling g mk a).vm } : State).setVm s₂.vm := rfl
      rw [e2] at this
      exact this
    obtain ⟨c₂, i₂, len₂, hc₂, hd₂, hf₂⟩ := hend
    have hW' : U.WarmedH s₂.vm := hW₂
    have hcc : c₂ = c := by
      have h1 : s₂.code? g.method = U.code? g.method := by
        rw [State.code?_eq, State.code?_eq, hW'.alike.method?]
      exact Option.some.inj (hc₂.symm.trans (h1.trans h.code))
    subst hcc
    have hlen : len₂ = len := by rw [hdg] at hd₂; cases hd₂; rfl
    subst hlen
    have hs₂ : s₂ = (({ U with heap := s₂.heap, slotsUsed := s₂.slotsUsed } : State).setVm s₂.vm).setTop { g with pc := g.pc + len₂, stack := v.toList ++ g.stack } := by
      refine e3.trans ?_
      rw [hf₂, State.calling_eq h.top, State.setFrames_setFrames, State.setTop_of_frames _ hr', hr]
      rfl
    have hsame : U.sameButNew ({ U with heap := s₂.heap, slotsUsed := s₂.slotsUsed } : State) L mc ms := by
      refine ⟨?_, q2, q3, q4, q5, q6⟩
      obtain ⟨t, ht, -⟩ := State.frames_cons hr
      show ({ U with heap := s₂.heap, slotsUsed := s₂.slotsUsed } : State) = { U.setFrames U.frames with heap := s₂.heap, slotsUsed := s₂.slotsUsed }
      rw [State.setFrames_self ht]
    subst hg
    refine Or.inl ⟨v, ⟨(({ U with heap := s₂.heap, slotsUsed := s₂.slotsUsed } : State).setVm s₂.vm), Ls ++ L, c0 + mc, s0 + ms⟩,
      ⟨X.admits, X.cas, X.clock, X.frames, X.room, X.hears, X.method, X.code, (X.here.setHeapUsed s₂.heap s₂.slotsUsed).setVm hW'.alike, X.tail, State.WarmedH.trans X.warmed hW', X.limits, X.bytes, X.same.trans (hsame.setVm s.vm)⟩,
      ⟨g, mk, s₂, L, rfl, rfl, hqc, rfl, hL, rfl, rfl⟩, ?_⟩
    show Steps p.tables e below _ ((({ U with heap := s₂.heap, slotsUsed := s₂.slotsUsed } : State).setVm s₂.vm).setTop { g with pc := g.pc + len₂, stack := v.toList ++ g.stack })
    rw [← hs₂]
    exact hsteps
  · obtain ⟨e2, q2, q3, q4, q5, q6⟩ := id hsm
    have e3 : s₂ = ({ (U.calling g mk a).setFrames s₂.frames with heap := s₂.heap, slotsUsed := s₂.slotsUsed } : State).setVm s₂.vm := by
      have : s₂ = ({ s₂ with vm := (U.calling g mk a).vm } : State).setVm s₂.vm := rfl
      rw [e2] at this
      exact this
    have hf₂ : s₂.frames = .throwing q :: .java g :: U.frames.tail := hend
    have hW' : U.WarmedH s₂.vm := hW₂
    have hs₂ : s₂ = ((({ U with heap := s₂.heap, slotsUsed := s₂.slotsUsed } : State).setVm s₂.vm).setTop g).pushFrame (.throwing q) := by
      refine e3.trans ?_
      rw [hf₂, State.calling_eq h.top, State.setFrames_setFrames, State.pushFrame, State.frames_setTop _ hr', State.setTop_of_frames _ hr', State.setFrames_setFrames, hr]
      rfl
    have hsame : U.sameButNew ({ U with heap := s₂.heap, slotsUsed := s₂.slotsUsed } : State) L mc ms := by
      refine ⟨?_, q2, q3, q4, q5, q6⟩
      obtain ⟨t, ht, -⟩ := State.frames_cons hr
      show ({ U with heap := s₂.heap, slotsUsed := s₂.slotsUsed } : State) = { U.setFrames U.frames with heap := s₂.heap, slotsUsed := s₂.slotsUsed }
      rw [State.setFrames_self ht]
    subst hg
    refine Or.inr ⟨q, ⟨(({ U with heap := s₂.heap, slotsUsed := s₂.slotsUsed } : State).setVm s₂.vm), Ls ++ L, c0 + mc, s0 + ms⟩,
      ⟨X.admits, X.cas, X.clock, X.frames, X.room, X.hears, X.method, X.code, (X.here.setHeapUsed s₂.heap s₂.slotsUsed).setVm hW'.alike, X.tail, State.WarmedH.trans X.warmed hW', X.limits, X.bytes, X.same.trans (hsame.setVm s.vm)⟩,
      ⟨g, mk, s₂, L, E, ce, rfl, rfl, hx, hce, hcv, hcl, rfl, hL, rfl, rfl⟩, ?_⟩
    show Steps p.tables e below _ (((({ U with heap := s₂.heap, slotsUsed := s₂.slotsUsed } : State).setVm s₂.vm).setTop g).pushFrame (.throwing q))
    rw [← hs₂]
    exact hsteps
end
variable {p : Program} {l : Launch} {e : Env} {R : Room} {s : State} {m : MethodId} {args : Array Value} {below : List Frame} {meth : Method} {c : Code} {T : State} {H : Heap} {locs : List Loc} {cells slots : Nat}
theorem vx_callVX (X : Stand p l e R s m args below meth c T locs cells slots) (hexec : p.tables.exec = Jvm.exec) {own C : String} {index : Nat} {y : MethodName} {bytes : ByteArray} {maxL : Nat} {ret : Option FieldType} {hh : List (Nat × Nat × Nat × Nat)}
    (hown : s.vm.findClass own = some m.cls) (hlink : (Cond.methodLink own index y).before args s = true) (hinst : (Cond.instanceMethod y).before args s = true) (hsel : (Cond.selects C y y).before args s = true)
    (hcode : (Cond.codeWith y bytes maxL ret hh).before args s = true) (hy : y.cls ≠ "java/lang/invoke/MethodHandle" ∧ y.cls ≠ "java/lang/invoke/VarHandle")
    {W9 : Nat} {Pre : Pt → Array Value → Prop} {Post : Pt → Array Value → Option Value → Pt → Prop} {PostX : Pt → Array Value → Addr → Pt → Prop} (hK : vx_Back l R p e below s args y 3 W9 Pre Post PostX)
    {b : Addr} {cellB : Cell} (hcell : T.heap[b]? = some cellB) (hobj : cellB.vm.isStatics = false) (hcls : s.vm.findClass C = some cellB.cls)
    {g : JFrame} (hg : g.method = m) (hsize : g.locals.size = c.maxLocals) {argsL rest : List Value} (hlen : ∀ sig, parseMethodDescriptor y.desc = some sig → argsL.length = sig.parameters.length)
    (hstack : g.stack = argsL.reverse ++ .ref b :: rest) (hW : 2 * g.monitorRoom + (rest.map fun v => v.category).sum ≤ W9) (hdg : decode c.code g.pc = .ok (.invokevirtual index, 3))
    (hpre : ∀ vm₁, s.WarmedH vm₁ → Pre ⟨T.setVm vm₁, locs, cells, slots⟩ (Value.ref b :: argsL).toArray) :
    (∃ (v : Option Value) (vm₁ : Vm) (B : Pt), s.WarmedH vm₁ ∧ Stand p l e R s m args below meth c B.U B.locs B.cells B.slots ∧ Post ⟨T.setVm vm₁, locs, cells, slots⟩ (Value.ref b :: argsL).toArray v B ∧
      ∀ target, Steps p.tables e below (B.U.setTop { g with pc := g.pc + 3, stack := v.toList ++ rest }) target → Steps p.tables e below (T.setTop g) target) ∨
    (∃ (q : Addr) (vm₁ : Vm) (B : Pt), s.WarmedH vm₁ ∧ Stand p l e R s m args below meth c B.U B.locs B.cells B.slots ∧ PostX ⟨T.setVm vm₁, locs, cells, slots⟩ (Value.ref b :: argsL).toArray q B ∧
      Steps p.tables e below (T.setTop g) ((B.U.setTop { g with stack := rest }).pushFrame (.throwing q))) := by
  obtain ⟨mk, methM, hnamed, hmethM, hstM, habM⟩ := Cond.instanceMethod_spec hinst
  obtain ⟨m8, methM', cM, hn8, hmethM', -, -, -, -, -, -, hsigM⟩ := Cond.codeWith_spec hcode
  cases Option.some.inj (hn8.symm.trans hnamed)
  cases hmethM.symm.trans hmethM'
  obtain ⟨c2, r2, m2, q1, q2, q3, q4, kP, hkP, hkPi⟩ := Cond.selects_spec hsel
  cases hcls.symm.trans q1
  cases (State.methodFound?_of_named hnamed hy).symm.trans q2
  cases hnamed.symm.trans q3
  have hselP : selectMethod e.platform s.vm cellB.cls mk = .method mk := by rw [Launch.admits_selectMethod X.admits]; exact q4
  obtain ⟨vm₁, X₁, hstep₁⟩ := X.invokevirtual hexec hown hlink hnamed hmethM hstM hkP hkPi hy (a := b) (cell := cellB) hcell
    (fun z h => by rw [h] at hobj; cases hobj) hselP hmethM habM hkP hkPi (g := g) hg (argsL := argsL) (rest := rest) (hlen _ hsigM) hstack hdg
  rcases hK m meth c ⟨T.setVm vm₁, locs, cells, slots⟩ { g with stack := rest } (.invokevirtual index) mk (Value.ref b :: argsL).toArray X₁ hg hsize hdg hW (X₁.named hnamed) (hpre vm₁ X₁.warmed) with ⟨v, B, X', hpost, hsteps⟩ | ⟨q, B, X', hpost, hsteps⟩
  · exact Or.inl ⟨v, vm₁, B, X₁.warmed, X', hpost, fun target h => hstep₁ _ fun acts => by rw [doInvoke_state]; exact hsteps.trans h⟩
  · exact Or.inr ⟨q, vm₁, B, X₁.warmed, X', hpost, hstep₁ _ fun acts => by rw [doInvoke_state]; exact hsteps⟩
theorem vx_callSX (X : Stand p l e R s m args below meth c T locs cells slots) (hexec : p.tables.exec = Jvm.exec) {own : String} {index : Nat} {y : MethodName} {bytes : ByteArray} {maxL : Nat} {ret : Option FieldType} {hh : List (Nat × Nat × Nat × Nat)}
    (hown : s.vm.findClass own = some m.cls) (hlink : (Cond.methodLink own index y).before args s = true) (hstat : (Cond.static y).before args s = true) (hinit : (Cond.initialized y.cls).before args s = true)
    (hcode : (Cond.codeWith y bytes maxL ret hh).before args s = true) (hy : y.cls ≠ "java/lang/invoke/MethodHandle" ∧ y.cls ≠ "java/lang/invoke/VarHandle")
    {W9 : Nat} {Pre : Pt → Array Value → Prop} {Post : Pt → Array Value → Option Value → Pt → Prop} {PostX : Pt → Array Value → Addr → Pt → Prop} (hK : vx_Back l R p e below s args y 3 W9 Pre Post PostX)
    {g : JFrame} (hg : g.method = m) (hsize : g.locals.size = c.maxLocals) {argsL rest : List Value} (hlen : ∀ sig, parseMethodDescriptor y.desc = some sig → argsL.length = sig.parameters.length)
    (hstack : g.stack = argsL.reverse ++ rest) (hW : 2 * g.monitorRoom + (rest.map fun v => v.category).sum ≤ W9) (hdg : decode c.code g.pc = .ok (.invokestatic index, 3))
    (hpre : ∀ vm₁, s.WarmedH vm₁ → Pre ⟨T.setVm vm₁, locs, cells, slots⟩ argsL.toArray) :
    (∃ (v : Option Value) (vm₁ : Vm) (B : Pt), s.WarmedH vm₁ ∧ Stand p l e R s m args below meth c B.U B.locs B.cells B.slots ∧ Post ⟨T.setVm vm₁, locs, cells, slots⟩ argsL.toArray v B ∧
      ∀ target, Steps p.tables e below (B.U.setTop { g with pc := g.pc + 3, stack := v.toList ++ rest }) target → Steps p.tables e below (T.setTop g) target) ∨
    (∃ (q : Addr) (vm₁ : Vm) (B : Pt), s.WarmedH vm₁ ∧ Stand p l e R s m args below meth c B.U B.locs B.cells B.slots ∧ PostX ⟨T.setVm vm₁, locs, cells, slots⟩ argsL.toArray q B ∧
      Steps p.tables e below (T.setTop g) ((B.U.setTop { g with stack := rest }).pushFrame (.throwing q))) := by
  obtain ⟨mk, methM, cM, hnamed, hmethM, -, -, -, -, -, -, hsigM⟩ := Cond.codeWith_spec hcode
  have hstatic : methM.isStatic = true := Cond.static_spec hnamed hmethM hstat
  obtain ⟨kP, hkP, -⟩ := className_of_methodNamed hnamed
  have hinitP : kP.init = .initialized := Cond.initialized_spec (findClass_of_methodNamed hnamed) hkP hinit
  obtain ⟨vm₁, X₁, hstep₁⟩ := X.invokestatic hexec hown hlink hnamed hmethM hstatic hkP hinitP hy (g := g) hg (argsL := argsL) (rest := rest) (hlen _ hsigM) hstack hdg
  rcases hK m meth c ⟨T.setVm vm₁, locs, cells, slots⟩ { g with stack := rest } (.invokestatic index) mk argsL.toArray X₁ hg hsize hdg hW (X₁.named hnamed) (hpre vm₁ X₁.warmed) with ⟨v, B, X', hpost, hsteps⟩ | ⟨q, B, X', hpost, hsteps⟩
  · exact Or.inl ⟨v, vm₁, B, X₁.warmed, X', hpost, fun target h => hstep₁ _ fun acts => by rw [doInvoke_state]; exact hsteps.trans h⟩
  · exact Or.inr ⟨q, vm₁, B, X₁.warmed, X', hpost, hstep₁ _ fun acts => by rw [doInvoke_state]; exact hsteps⟩
theorem vx_callVW (X : Stand p l e R s m args below meth c T locs cells slots) (hexec : p.tables.exec = Jvm.exec) {own C : String} {index : Nat} {y : MethodName} {bytes : ByteArray} {maxL : Nat} {ret : Option FieldType} {hh : List (Nat × Nat × Nat × Nat)}
    (hown : s.vm.findClass own = some m.cls) (hlink : (Cond.methodLink own index y).before args s = true) (hinst : (Cond.instanceMethod y).before args s = true) (hsel : (Cond.selects C y y).before args s = true)
    (hcode : (Cond.codeWith y bytes maxL ret hh).before args s = true) (hy : y.cls ≠ "java/lang/invoke/MethodHandle" ∧ y.cls ≠ "java/lang/invoke/VarHandle")
    {W9 : Nat} {Pre : Pt → Array Value → Prop} {Post : Pt → Array Value → Option Value → Pt → Prop} (hK : Back l R p e below s args y 3 W9 Pre Post)
    {b : Addr} {cellB : Cell} (hcell : T.heap[b]? = some cellB) (hobj : cellB.vm.isStatics = false) (hcls : s.vm.findClass C = some cellB.cls)
    {g : JFrame} (hg : g.method = m) (hsize : g.locals.size = c.maxLocals) {argsL rest : List Value} (hlen : ∀ sig, parseMethodDescriptor y.desc = some sig → argsL.length = sig.parameters.length)
    (hstack : g.stack = argsL.reverse ++ .ref b :: rest) (hW : 2 * g.monitorRoom + (rest.map fun v => v.category).sum ≤ W9) (hdg : decode c.code g.pc = .ok (.invokevirtual index, 3))
    (hpre : ∀ vm₁, s.WarmedH vm₁ → Pre ⟨T.setVm vm₁, locs, cells, slots⟩ (Value.ref b :: argsL).toArray) :
    ∃ (v : Option Value) (vm₁ : Vm) (B : Pt), s.WarmedH vm₁ ∧ Stand p l e R s m args below meth c B.U B.locs B.cells B.slots ∧ Post ⟨T.setVm vm₁, locs, cells, slots⟩ (Value.ref b :: argsL).toArray v B ∧
      ∀ target, Steps p.tables e below (B.U.setTop { g with pc := g.pc + 3, stack := v.toList ++ rest }) target → Steps p.tables e below (T.setTop g) target := by
  obtain ⟨mk, methM, hnamed, hmethM, hstM, habM⟩ := Cond.instanceMethod_spec hinst
  obtain ⟨m8, methM', cM, hn8, hmethM', -, -, -, -, -, -, hsigM⟩ := Cond.codeWith_spec hcode
  cases Option.some.inj (hn8.symm.trans hnamed)
  cases hmethM.symm.trans hmethM'
  obtain ⟨c2, r2, m2, q1, q2, q3, q4, kP, hkP, hkPi⟩ := Cond.selects_spec hsel
  cases hcls.symm.trans q1
  cases (State.methodFound?_of_named hnamed hy).symm.trans q2
  cases hnamed.symm.trans q3
  have hselP : selectMethod e.platform s.vm cellB.cls mk = .method mk := by rw [Launch.admits_selectMethod X.admits]; exact q4
  obtain ⟨vm₁, X₁, hstep₁⟩ := X.invokevirtual hexec hown hlink hnamed hmethM hstM hkP hkPi hy (a := b) (cell := cellB) hcell
    (fun z h => by rw [h] at hobj; cases hobj) hselP hmethM habM hkP hkPi (g := g) hg (argsL := argsL) (rest := rest) (hlen _ hsigM) hstack hdg
  obtain ⟨v, B, X', hpost, hsteps⟩ := hK m meth c ⟨T.setVm vm₁, locs, cells, slots⟩ { g with stack := rest } (.invokevirtual index) mk (Value.ref b :: argsL).toArray X₁ hg hsize hdg hW (X₁.named hnamed) (hpre vm₁ X₁.warmed)
  exact ⟨v, vm₁, B, X₁.warmed, X', hpost, fun target h => hstep₁ _ fun acts => by rw [doInvoke_state]; exact hsteps.trans h⟩
abbrev vx_CVW (R : Room) (s : State) (args : Array Value) (own C : String) (index : Nat) (y : MethodName) (bytes : ByteArray) (maxL : Nat) (ret : Option FieldType) (hh : List (Nat × Nat × Nat × Nat)) (ws : List Cond) (rm : Room) (mc ms n : Nat) : Prop :=
  (rm.cells = mc ∧ rm.slots = ms ∧ rm.frames + 1 ≤ R.frames ∧ 8 + (maxL + 11) + rm.locals ≤ R.locals ∧ (∀ w ∈ ws, ∀ (a' : Array Value) (U : State), s.WarmedH U.vm → w.before a' U = true) ∧ Cond.codeWith y bytes maxL ret hh ∈ ws) ∧
  (Cond.codeWith y bytes maxL ret hh).before args s = true ∧ (Cond.initialized y.cls).before args s = true ∧ (y.cls ≠ "java/lang/invoke/MethodHandle" ∧ y.cls ≠ "java/lang/invoke/VarHandle") ∧
  (∀ sig, parseMethodDescriptor y.desc = some sig → n = sig.parameters.length) ∧ (Cond.methodLink own index y).before args s = true ∧ (Cond.instanceMethod y).before args s = true ∧ (Cond.selects C y y).before args s = true
theorem vx_cwVW {own C : String} {index maxL mc ms : Nat} {y : MethodName} {bytes : ByteArray} {ret : Option FieldType} {hh : List (Nat × Nat × Nat × Nat)} {Ts ws ws' : List Cond} {rm : Room} (n : Nat) (ht : ∀ w ∈ Ts, w.before args s = true) (hT : GoodIn Ts (wsV own index C y ws)) (hw : ws = Cond.codeWith y bytes maxL ret hh :: ws') (hrc : rm.cells = mc) (hrs : rm.slots = ms)
    (hd : y.cls = C ∧ y.cls ≠ "java/lang/invoke/MethodHandle" ∧ y.cls ≠ "java/lang/invoke/VarHandle" ∧ (parseMethodDescriptor y.desc).map (fun d => d.parameters.length) = some n) (hR : rm.frames + 1 ≤ R.frames ∧ 8 + (maxL + 11) + rm.locals ≤ R.locals) :
    vx_CVW R s args own C index y bytes maxL ret hh ws rm mc ms n := by
  obtain ⟨hC, hd⟩ := hd
  subst hC
  have ok : ∀ w ∈ wsV own index y.cls y ws, w.before args s = true := fun w h => ht w (hT w h).1
  have hG : GoodIn Ts ws := fun w h => hT w (by unfold wsV; exact List.mem_append_right _ h)
  have hc : Cond.codeWith y bytes maxL ret hh ∈ ws := by rw [hw]; exact List.mem_cons_self
  refine ⟨⟨hrc, hrs, hR.1, hR.2, pay_in ht hG, hc⟩, ht _ (hG _ hc).1, ok _ (by simp [wsV]), ⟨hd.1, hd.2.1⟩, fun sig h => ?_, ok _ (by simp [wsV]), ok _ (by simp [wsV]), ok _ (by simp [wsV])⟩
  have h2 := hd.2.2
  rw [h] at h2
  exact (Option.some.inj h2).symm
theorem vx_runVW {y : MethodName} {bytes cc : ByteArray} {maxL nL mc ms n index : Nat} {ret : Option FieldType} {hh : List (Nat × Nat × Nat × Nat)} {ws : List Cond} {rm : Room} {Pc : Array Value → State → Prop} {Qc : Array Value → State → Outcome → State → Prop} {free : Addr → Prop} {Ts : List Cond} {own C : String} {b : Addr} {As rest : List Value} {g : JFrame}
    (S : CallFix p m c cc nL s args Ts own) (hM : Met l y ws rm Pc Qc mc ms free) (cw : vx_CVW R s args own C index y bytes maxL ret hh ws rm mc ms n) (hp : PreV s H C b Pc As)
    (hg : g.method = m) (hn : As.length = n) (hsize : g.locals.size = nL) (hstack : g.stack = As.reverse ++ .ref b :: rest) (hW : 2 * g.monitorRoom + (rest.map fun v => v.category).sum ≤ 8) (hdg : decode cc g.pc = .ok (.invokevirtual index, 3)) (hf : cells + mc ≤ R.cells ∧ slots + ms ≤ R.slots) :
    va_Run p l e R s m args below meth c H locs cells slots mc ms g rest (Qc (Value.ref b :: As).toArray) free := by
  obtain ⟨⟨hrc, hrs, hfr, hlo, hws, hcw⟩, hcode, hini, hy, hlen, hl, hin, hse⟩ := cw
  have hK : Back l R p e below s args y 3 8 (PreOf R mc ms Pc) (PostOf Qc mc ms free) := va_backW (hh := hh) (bytes := bytes) (maxL := maxL) (ret := ret) hM hp.1 hrc hrs hfr hlo hws hcw (fun a' U hW => word_at hW (Or.inl (by first | rfl | simp [Cond.onTables, Cond.keeps, Cond.steady])) hini)
  obtain ⟨hx, hb, hml, ho, -⟩ := S
  obtain ⟨-, ⟨cellB, hcB, hoB, hclB⟩, hPc⟩ := hp
  intro T hT X
  obtain ⟨v, vm₁, ⟨U', l2, c2, s2⟩, hW₁, X', ⟨g', mk, t, L, e1, e2, hq, h1, hL, h2, h3⟩, st⟩ := vx_callVW X hx (C := C) (hh := hh) (bytes := bytes) (maxL := maxL) (ret := ret) ho hl hin hse hcode hy hK (by rw [hT]; exact hcB) hoB hclB hg (hsize.trans hml.symm) (argsL := As) (rest := rest) (fun sig h => hn.trans (hlen sig h)) hstack hW (by rw [hb]; exact hdg)
    (fun vm₁ hW₁ => ⟨hf.1, hf.2, hPc (T.setVm vm₁) hT hW₁⟩)
  dsimp only [Pt.U, Pt.locs, Pt.cells, Pt.slots] at X' e1 e2 h1 h2 h3 st
  subst h1; subst h2; subst h3
  exact ⟨v, (T.setVm vm₁).calling g' mk (Value.ref b :: As).toArray, t, U', L, hT, X', hL, e1, e2, hq, st⟩
section
variable {y : MethodName} {bytes cc : ByteArray} {maxL nL mc ms n index : Nat} {ret : Option FieldType} {ws : List Cond} {rm : Room} {Pc : Array Value → State → Prop} {Qc : Array Value → State → Outcome → State → Prop} {XC : String → State → State → Prop} {free : Addr → Prop} {Ts : List Cond} {own C : String} {b : Addr} {As rest : List Value} {g : JFrame}
theorem vx_runVX {hh : List (Nat × Nat × Nat × Nat)} (S : CallFix p m c cc nL s args Ts own) (hM : vx_Met l y ws rm Pc Qc XC mc ms free) (cw : vx_CVW R s args own C index y bytes maxL ret hh ws rm mc ms n) (hp : PreV s H C b Pc As)
    (hg : g.method = m) (hn : As.length = n) (hsize : g.locals.size = nL) (hstack : g.stack = As.reverse ++ .ref b :: rest) (hW : 2 * g.monitorRoom + (rest.map fun v => v.category).sum ≤ 8) (hdg : decode cc g.pc = .ok (.invokevirtual index, 3)) (hf : cells + mc ≤ R.cells ∧ slots + ms ≤ R.slots) :
    vx_Run p l e R s m args below meth c H locs cells slots mc ms g rest (Qc (Value.ref b :: As).toArray) XC free := by
  obtain ⟨⟨hrc, hrs, hfr, hlo, hws, hcw⟩, hcode, hini, hy, hlen, hl, hin, hse⟩ := cw
  have hK : vx_Back l R p e below s args y 3 8 (PreOf R mc ms Pc) (PostOf Qc mc ms free) (vx_Post XC mc ms free) := vx_backW (hh := hh) (bytes := bytes) (maxL := maxL) (ret := ret) hM hp.1 hrc hrs hfr hlo hws hcw (fun a' U hW => word_at hW (Or.inl (by first | rfl | simp [Cond.onTables, Cond.keeps, Cond.steady])) hini)
  obtain ⟨hx, hb, hml, ho, -⟩ := S
  obtain ⟨-, ⟨cellB, hcB, hoB, hclB⟩, hPc⟩ := hp
  intro T hT X
  rcases vx_callVX X hx (C := C) (hh := hh) (bytes := bytes) (maxL := maxL) (ret := ret) ho hl hin hse hcode hy hK (by rw [hT]; exact hcB) hoB hclB hg (hsize.trans hml.symm) (argsL := As) (rest := rest) (fun sig h => hn.trans (hlen sig h)) hstack hW (by rw [hb]; exact hdg)
    (fun vm₁ hW₁ => ⟨hf.1, hf.2, hPc (T.setVm vm₁) hT hW₁⟩) with ⟨v, vm₁, ⟨U', l2, c2, s2⟩, hW₁, X', ⟨g', mk, t, L, e1, e2, hq, h1, hL, h2, h3⟩, st⟩ | ⟨q, vm₁, ⟨U', l2, c2, s2⟩, hW₁, X', ⟨g', mk, t, L, E, ce, e1, e2, hq, hce, hcv, hcl, h1, hL, h2, h3⟩, st⟩
  · dsimp only [Pt.U, Pt.locs, Pt.cells, Pt.slots] at X' e1 e2 h1 h2 h3 st
    subst h1; subst h2; subst h3
    exact Or.inl ⟨v, (T.setVm vm₁).calling g' mk (Value.ref b :: As).toArray, t, U', L, hT, X', hL, e1, e2, hq, st⟩
  · dsimp only [Pt.U, Pt.locs, Pt.cells, Pt.slots] at X' e1 e2 h1 h2 h3 st hcl
    subst h1; subst h2; subst h3
    exact Or.inr ⟨q, (T.setVm vm₁).calling g' mk (Value.ref b :: As).toArray, t, U', L, E, ce, hT, X', hL, e1, e2, hq, hce, hcv, vx_cls hW₁ hcl, st⟩
theorem vx_runSX {hh : List (Nat × Nat × Nat × Nat)} (S : CallFix p m c cc nL s args Ts own) (hM : vx_Met l y ws rm Pc Qc XC mc ms free) (cw : vx_CSW R s args own index y bytes maxL ret hh ws rm mc ms n) (hp : PreS s H Pc As)
    (hg : g.method = m) (hn : As.length = n) (hsize : g.locals.size = nL) (hstack : g.stack = As.reverse ++ rest) (hW : 2 * g.monitorRoom + (rest.map fun v => v.category).sum ≤ 8) (hdg : decode cc g.pc = .ok (.invokestatic index, 3)) (hf : cells + mc ≤ R.cells ∧ slots + ms ≤ R.slots) :
    vx_Run p l e R s m args below meth c H locs cells slots mc ms g rest (Qc As.toArray) XC free := by
  obtain ⟨⟨hrc, hrs, hfr, hlo, hws, hcw⟩, hcode, hini, hy, hlen, hl, hstt⟩ := cw
  have hK : vx_Back l R p e below s args y 3 8 (PreOf R mc ms Pc) (PostOf Qc mc ms free) (vx_Post XC mc ms free) := vx_backW (hh := hh) (bytes := bytes) (maxL := maxL) (ret := ret) hM hp.1 hrc hrs hfr hlo hws hcw (fun a' U hW => word_at hW (Or.inl (by first | rfl | simp [Cond.onTables, Cond.keeps, Cond.steady])) hini)
  obtain ⟨hx, hb, hml, ho, -⟩ := S
  intro T hT X
  rcases vx_callSX X hx (hh := hh) (bytes := bytes) (maxL := maxL) (ret := ret) ho hl hstt hini hcode hy hK hg (hsize.trans hml.symm) (argsL := As) (rest := rest) (fun sig h => hn.trans (hlen sig h)) hstack hW (by rw [hb]; exact hdg)
    (fun vm₁ hW₁ => ⟨hf.1, hf.2, hp.2 (T.setVm vm₁) hT hW₁⟩) with ⟨v, vm₁, ⟨U', l2, c2, s2⟩, hW₁, X', ⟨g', mk, t, L, e1, e2, hq, h1, hL, h2, h3⟩, st⟩ | ⟨q, vm₁, ⟨U', l2, c2, s2⟩, hW₁, X', ⟨g', mk, t, L, E, ce, e1, e2, hq, hce, hcv, hcl, h1, hL, h2, h3⟩, st⟩
  · dsimp only [Pt.U, Pt.locs, Pt.cells, Pt.slots] at X' e1 e2 h1 h2 h3 st
    subst h1; subst h2; subst h3
    exact Or.inl ⟨v, (T.setVm vm₁).calling g' mk As.toArray, t, U', L, hT, X', hL, e1, e2, hq, st⟩
  · dsimp only [Pt.U, Pt.locs, Pt.cells, Pt.slots] at X' e1 e2 h1 h2 h3 st hcl
    subst h1; subst h2; subst h3
    exact Or.inr ⟨q, (T.setVm vm₁).calling g' mk As.toArray, t, U', L, E, ce, hT, X', hL, e1, e2, hq, hce, hcv, vx_cls hW₁ hcl, st⟩
end
end VXH
theorem vx_ofWH {l : Launch} {y : MethodName} {ws ws' : List Cond} {rm : Room} {Pc : Array Value → State → Prop} {Qc : Array Value → State → Outcome → State → Prop} {XC : String → State → State → Prop} {mc ms : Nat} {free : Addr → Prop} {cc : ByteArray} {maxL : Nat} {ret : Option FieldType} {hh : List (Nat × Nat × Nat × Nat)}
    (hy : plainName y.cls = true) (hw : ws = Cond.codeWith y cc maxL ret hh :: ws')
    (body : ∀ p e s m args below meth c s₁, BodyLoose p l y (headSpec ws rm) cc maxL ret e s m args below meth c s₁ → c.maxLocals = maxL → Pc args s →
      W p l e (headSpec ws rm).room s m args below meth c s.heap [] 0 0 (vx_MQ below Qc XC args s mc ms free) (entryFrame m args maxL)) : vx_Met l y ws rm Pc Qc XC mc ms free := by
  refine MetFree.of_bodyS (code := cc) (maxLocals := maxL) (ret := ret) hy ?_ ?_
  · intro args s m h hn
    obtain ⟨m9, meth, c, hn9, h1, h2, h3, h4, -, h5, h6, -⟩ := Cond.codeWith_spec (atoms_spec (ws := ws) h _ (by rw [hw]; exact List.mem_cons_self))
    cases hn.symm.trans hn9
    exact ⟨meth, c, h1, h2, h3, h4, h5, h6⟩
  · intro p e s m args below meth c s₁ B hml hP _
    have hh0 : s₁.heap = s.heap := by rw [B.state]; rfl
    obtain ⟨t, a1, o, b1, b2, b3⟩ := body p e s m args below meth c s₁ B hml hP s₁ hh0 (Stand.of_body B)
    exact ⟨t, o, a1, b1, b2, b3⟩
/-! ===== END ===== -/
end
section
/-! NAMES, by program out of the claim: the classes whose objects the heap holds, their fields, the methods with their instructions, the links. -/
def jw_big : List Cond := lw_tbl.filter goodWord
theorem jt_t1 {w : Cond} (h : w ∈ tables_1_1) : w ∈ tables_1 := List.mem_append_left _ h
theorem jt_i1 (i : Nat) {w : Cond} (h : tables_1_1[i]? = some w) (g : goodWord w = true) : w ∈ jw_big := List.mem_filter.mpr ⟨List.mem_append_right _ (jt_t1 (List.mem_of_getElem? h)), g⟩
theorem jt_t2 {w : Cond} (h : w ∈ tables_1_2) : w ∈ tables_1 := List.mem_append_right _ (List.mem_append_left _ h)
theorem jt_i2 (i : Nat) {w : Cond} (h : tables_1_2[i]? = some w) (g : goodWord w = true) : w ∈ jw_big := List.mem_filter.mpr ⟨List.mem_append_right _ (jt_t2 (List.mem_of_getElem? h)), g⟩
theorem jt_t3 {w : Cond} (h : w ∈ tables_1_3) : w ∈ tables_1 := List.mem_append_right _ (List.mem_append_right _ (List.mem_append_left _ h))
theorem jt_i3 (i : Nat) {w : Cond} (h : tables_1_3[i]? = some w) (g : goodWord w = true) : w ∈ jw_big := List.mem_filter.mpr ⟨List.mem_append_right _ (jt_t3 (List.mem_of_getElem? h)), g⟩
theorem jt_t4 {w : Cond} (h : w ∈ tables_1_4) : w ∈ tables_1 := List.mem_append_right _ (List.mem_append_right _ (List.mem_append_right _ (List.mem_append_left _ h)))
theorem jt_i4 (i : Nat) {w : Cond} (h : tables_1_4[i]? = some w) (g : goodWord w = true) : w ∈ jw_big := List.mem_filter.mpr ⟨List.mem_append_right _ (jt_t4 (List.mem_of_getElem? h)), g⟩
theorem jt_t5 {w : Cond} (h : w ∈ tables_1_5) : w ∈ tables_1 := List.mem_append_right _ (List.mem_append_right _ (List.mem_append_right _ (List.mem_append_right _ (List.mem_append_left _ h))))
theorem jt_i5 (i : Nat) {w : Cond} (h : tables_1_5[i]? = some w) (g : goodWord w = true) : w ∈ jw_big := List.mem_filter.mpr ⟨List.mem_append_right _ (jt_t5 (List.mem_of_getElem? h)), g⟩
theorem jt_t6 {w : Cond} (h : w ∈ tables_1_6) : w ∈ tables_1 := List.mem_append_right _ (List.mem_append_right _ (List.mem_append_right _ (List.mem_append_right _ (List.mem_append_right _ h))))
theorem jt_i6 (i : Nat) {w : Cond} (h : tables_1_6[i]? = some w) (g : goodWord w = true) : w ∈ jw_big := List.mem_filter.mpr ⟨List.mem_append_right _ (jt_t6 (List.mem_of_getElem? h)), g⟩
/-- the words of links across the nest, and some others: they hold on, but by laws of their own -/
def jw_n1 : List (String × Nat × String × String × String × String) := [("TemplateEngine$TemplateReader", 210, "TemplateEngine$Text", "chars", "[C", "TemplateEngine"), ("TemplateEngine", 163, "TemplateEngine$Text", "chars", "[C", "TemplateEngine"), ("TemplateEngine$TemplateReader", 42, "TemplateEngine$Text", "length", "I", "TemplateEngine"), ("TemplateEngine", 51, "TemplateEngine$Text", "length", "I", "TemplateEngine"), ("TemplateEngine$Value", 40, "TemplateEngine$Text", "length", "I", "TemplateEngine"), ("TemplateEngine", 99, "TemplateEngine$Value", "kind", "I", "TemplateEngine"), ("TemplateEngine$Renderer", 210, "TemplateEngine$Value", "kind", "I", "TemplateEngine"), ("TemplateEngine$Renderer", 222, "TemplateEngine$Value", "number", "I", "TemplateEngine"), ("TemplateEngine$Renderer", 204, "TemplateEngine$Value", "text", "LTemplateEngine$Text;", "TemplateEngine"), ("TemplateEngine$Renderer", 178, "TemplateEngine$Value", "entries", "[LTemplateEngine$Value;", "TemplateEngine"), ("TemplateEngine", 187, "TemplateEngine$Value", "entries", "[LTemplateEngine$Value;", "TemplateEngine"), ("TemplateEngine$Renderer", 171, "TemplateEngine$Value", "size", "I", "TemplateEngine"), ("TemplateEngine", 108, "TemplateEngine$Value", "size", "I", "TemplateEngine"), ("TemplateEngine", 184, "TemplateEngine$Value", "lastSearch", "I", "TemplateEngine"), ("TemplateEngine", 158, "TemplateEngine$Renderer", "rendered", "LTemplateEngine$Text;", "TemplateEngine"), ("TemplateEngine", 174, "TemplateEngine$Renderer", "tagsRendered", "I", "TemplateEngine"), ("TemplateEngine$Renderer", 89, "TemplateEngine$Part", "sort", "LTemplateEngine$Sort;", "TemplateEngine"), ("TemplateEngine$TemplateReader", 135, "TemplateEngine$Part", "sort", "LTemplateEngine$Sort;", "TemplateEngine"), ("TemplateEngine$TemplateReader", 96, "TemplateEngine$Part", "place", "I", "TemplateEngine"), ("TemplateEngine$TemplateReader", 106, "TemplateEngine$Part", "plain", "LTemplateEngine$Text;", "TemplateEngine"), ("TemplateEngine$Renderer", 99, "TemplateEngine$Part", "plain", "LTemplateEngine$Text;", "TemplateEngine"), ("TemplateEngine$Renderer", 109, "TemplateEngine$Part", "expression", "LTemplateEngine$Expression;", "TemplateEngine"), ("TemplateEngine$TemplateReader", 221, "TemplateEngine$Part", "expression", "LTemplateEngine$Expression;", "TemplateEngine"), ("TemplateEngine$Renderer", 125, "TemplateEngine$Part", "partial", "I", "TemplateEngine"), ("TemplateEngine$TemplateReader", 214, "TemplateEngine$Part", "partial", "I", "TemplateEngine"), ("TemplateEngine$Renderer", 135, "TemplateEngine$Part", "next", "LTemplateEngine$Part;", "TemplateEngine"), ("TemplateEngine$TemplateReader", 116, "TemplateEngine$Part", "next", "LTemplateEngine$Part;", "TemplateEngine"), ("TemplateEngine$Renderer", 70, "TemplateEngine$Part", "body", "LTemplateEngine$Part;", "TemplateEngine"), ("TemplateEngine$TemplateReader", 126, "TemplateEngine$Part", "body", "LTemplateEngine$Part;", "TemplateEngine"), ("TemplateEngine$TemplateReader", 123, "TemplateEngine$Part", "other", "LTemplateEngine$Part;", "TemplateEngine"), ("TemplateEngine$Renderer", 162, "TemplateEngine$Part", "other", "LTemplateEngine$Part;", "TemplateEngine"), ("TemplateEngine$TemplateReader", 119, "TemplateEngine$Part", "hasElse", "Z", "TemplateEngine"), ("TemplateEngine", 145, "TemplateEngine$TemplateReader", "root", "LTemplateEngine$Part;", "TemplateEngine"), ("TemplateEngine", 149, "TemplateEngine$TemplateReader", "tags", "I", "TemplateEngine"), ("TemplateEngine", 142, "TemplateEngine$TemplateReader", "fault", "I", "TemplateEngine"), ("TemplateEngine$Renderer", 235, "TemplateEngine$Operand", "sort", "LTemplateEngine$OperandSort;", "TemplateEngine"), ("TemplateEngine$Renderer", 243, "TemplateEngine$Operand", "literal", "LTemplateEngine$Value;", "TemplateEngine"), ("TemplateEngine$TemplateReader", 301, "TemplateEngine$Operand", "literal", "LTemplateEngine$Value;", "TemplateEngine"), ("TemplateEngine$Renderer", 250, "TemplateEngine$Operand", "back", "I", "TemplateEngine"), ("TemplateEngine$TemplateReader", 312, "TemplateEngine$Operand", "back", "I", "TemplateEngine"), ("TemplateEngine$Renderer", 253, "TemplateEngine$Operand", "steps", "[J", "TemplateEngine"), ("TemplateEngine$TemplateReader", 330, "TemplateEngine$Operand", "steps", "[J", "TemplateEngine"), ("TemplateEngine$Renderer", 197, "TemplateEngine$Expression", "helper", "LTemplateEngine$Helper;", "TemplateEngine"), ("TemplateEngine$Renderer", 181, "TemplateEngine$Expression", "first", "LTemplateEngine$Operand;", "TemplateEngine"), ("TemplateEngine$Renderer", 191, "TemplateEngine$Expression", "second", "LTemplateEngine$Operand;", "TemplateEngine"), ("TemplateEngine$TemplateReader", 253, "TemplateEngine$Helper", "opening", "Ljava/lang/String;", "TemplateEngine"), ("TemplateEngine$TemplateReader", 233, "TemplateEngine$Helper", "operands", "I", "TemplateEngine")]
def jw_n2 : List (String × Nat × MethodName × String) := [("TemplateEngine", 11, ⟨"TemplateEngine$Text", "<init>", "(I)V"⟩, "TemplateEngine"), ("TemplateEngine", 36, ⟨"TemplateEngine$Renderer", "<init>", "()V"⟩, "TemplateEngine"), ("TemplateEngine$Renderer", 20, ⟨"TemplateEngine$Value", "ofNumber", "(I)LTemplateEngine$Value;"⟩, "TemplateEngine"), ("TemplateEngine$Renderer", 30, ⟨"TemplateEngine$Text", "<init>", "(I)V"⟩, "TemplateEngine"), ("TemplateEngine$Renderer", 46, ⟨"TemplateEngine$Value", "ofText", "(LTemplateEngine$Text;)LTemplateEngine$Value;"⟩, "TemplateEngine"), ("TemplateEngine", 59, ⟨"TemplateEngine$Text", "append", "(C)V"⟩, "TemplateEngine"), ("TemplateEngine", 68, ⟨"TemplateEngine$Value", "ofNumber", "(I)LTemplateEngine$Value;"⟩, "TemplateEngine"), ("TemplateEngine", 76, ⟨"TemplateEngine$Text", "copyOf", "(II)LTemplateEngine$Text;"⟩, "TemplateEngine"), ("TemplateEngine", 80, ⟨"TemplateEngine$Value", "ofText", "(LTemplateEngine$Text;)LTemplateEngine$Value;"⟩, "TemplateEngine"), ("TemplateEngine", 84, ⟨"TemplateEngine$Text", "clear", "()V"⟩, "TemplateEngine"), ("TemplateEngine", 87, ⟨"TemplateEngine$Value", "ofEntries", "(I)LTemplateEngine$Value;"⟩, "TemplateEngine"), ("TemplateEngine", 113, ⟨"TemplateEngine$Value", "setEntry", "(IJLTemplateEngine$Value;)V"⟩, "TemplateEngine"), ("TemplateEngine", 117, ⟨"TemplateEngine$Text", "nameCode", "(II)J"⟩, "TemplateEngine"), ("TemplateEngine", 123, ⟨"TemplateEngine$Value", "placeOf", "(J)I"⟩, "TemplateEngine"), ("TemplateEngine", 136, ⟨"TemplateEngine$TemplateReader", "<init>", "(LTemplateEngine$Text;)V"⟩, "TemplateEngine"), ("TemplateEngine$TemplateReader", 17, ⟨"TemplateEngine$Part", "<init>", "(LTemplateEngine$Sort;I)V"⟩, "TemplateEngine"), ("TemplateEngine", 139, ⟨"TemplateEngine$TemplateReader", "takeApart", "()V"⟩, "TemplateEngine"), ("TemplateEngine$TemplateReader", 49, ⟨"TemplateEngine$Text", "find", "(Ljava/lang/String;I)I"⟩, "TemplateEngine"), ("TemplateEngine$TemplateReader", 102, ⟨"TemplateEngine$Text", "copyOf", "(II)LTemplateEngine$Text;"⟩, "TemplateEngine"), ("TemplateEngine$TemplateReader", 59, ⟨"TemplateEngine$Text", "hasWord", "(Ljava/lang/String;II)Z"⟩, "TemplateEngine"), ("TemplateEngine$TemplateReader", 278, ⟨"TemplateEngine$Operand", "<init>", "(LTemplateEngine$OperandSort;)V"⟩, "TemplateEngine"), ("TemplateEngine$TemplateReader", 295, ⟨"TemplateEngine$Value", "ofNumber", "(I)LTemplateEngine$Value;"⟩, "TemplateEngine"), ("TemplateEngine$TemplateReader", 305, ⟨"TemplateEngine$Value", "ofText", "(LTemplateEngine$Text;)LTemplateEngine$Value;"⟩, "TemplateEngine"), ("TemplateEngine$TemplateReader", 331, ⟨"TemplateEngine$Text", "nameCode", "(II)J"⟩, "TemplateEngine"), ("TemplateEngine$TemplateReader", 242, ⟨"TemplateEngine$Expression", "<init>", "(LTemplateEngine$Helper;LTemplateEngine$Operand;LTemplateEngine$Operand;)V"⟩, "TemplateEngine"), ("TemplateEngine", 154, ⟨"TemplateEngine$Renderer", "run", "([LTemplateEngine$Part;LTemplateEngine$Part;LTemplateEngine$Value;)V"⟩, "TemplateEngine"), ("TemplateEngine$Renderer", 54, ⟨"TemplateEngine$Text", "clear", "()V"⟩, "TemplateEngine"), ("TemplateEngine$Renderer", 102, ⟨"TemplateEngine$Text", "appendText", "(LTemplateEngine$Text;)V"⟩, "TemplateEngine"), ("TemplateEngine$Renderer", 216, ⟨"TemplateEngine$Value", "becomeNumber", "(I)LTemplateEngine$Value;"⟩, "TemplateEngine"), ("TemplateEngine$Renderer", 229, ⟨"TemplateEngine$Value", "elementAt", "(I)LTemplateEngine$Value;"⟩, "TemplateEngine"), ("TemplateEngine$Renderer", 259, ⟨"TemplateEngine$Value", "entryNamed", "(J)LTemplateEngine$Value;"⟩, "TemplateEngine"), ("TemplateEngine$Renderer", 266, ⟨"TemplateEngine$Text", "appendNumber", "(I)V"⟩, "TemplateEngine"), ("TemplateEngine$Renderer", 269, ⟨"TemplateEngine$Text", "append", "(C)V"⟩, "TemplateEngine"), ("TemplateEngine$Renderer", 275, ⟨"TemplateEngine$Text", "appendWord", "(Ljava/lang/String;)V"⟩, "TemplateEngine"), ("TemplateEngine$Renderer", 207, ⟨"TemplateEngine$Text", "raiseLetters", "()V"⟩, "TemplateEngine"), ("TemplateEngine$Renderer", 213, ⟨"TemplateEngine$Value", "measure", "()I"⟩, "TemplateEngine"), ("TemplateEngine$Renderer", 278, ⟨"TemplateEngine$Value", "isFalse", "()Z"⟩, "TemplateEngine"), ("TemplateEngine$Renderer", 225, ⟨"TemplateEngine$Text", "isLike", "(LTemplateEngine$Text;)Z"⟩, "TemplateEngine"), ("TemplateEngine$Renderer", 263, ⟨"TemplateEngine$Text", "appendEscaped", "(LTemplateEngine$Text;)V"⟩, "TemplateEngine"), ("TemplateEngine", 167, ⟨"TemplateEngine$Value", "measure", "()I"⟩, "TemplateEngine")]
def jw_n3 : List (String × String) := [("java/lang/IllegalArgumentException", "java/lang/IllegalArgumentException"), ("java/lang/IllegalStateException", "java/lang/IllegalStateException"), ("java/util/NoSuchElementException", "java/util/NoSuchElementException"), ("java/lang/IndexOutOfBoundsException", "java/lang/IndexOutOfBoundsException"), ("[J", "java/lang/Cloneable"), ("java/lang/ArithmeticException", "java/lang/ArithmeticException")]
def jw_n4 : List MethodName := [⟨"java/lang/RuntimeException", "<init>", "()V"⟩, ⟨"java/lang/RuntimeException", "<init>", "(Ljava/lang/String;)V"⟩, ⟨"java/lang/Exception", "<init>", "()V"⟩, ⟨"java/lang/Exception", "<init>", "(Ljava/lang/String;)V"⟩, ⟨"java/lang/Throwable", "<init>", "()V"⟩, ⟨"java/lang/Throwable", "<init>", "(Ljava/lang/String;)V"⟩, ⟨"java/lang/Enum", "ordinal", "()I"⟩]
def jw_nest : List Cond := jw_n1.map (fun q => .fieldLinkNest q.1 q.2.1 q.2.2.1 q.2.2.2.1 q.2.2.2.2.1 q.2.2.2.2.2) ++ (jw_n2.map (fun q => .methodLinkNest q.1 q.2.1 q.2.2.1 q.2.2.2) ++ (jw_n3.map (fun q => .castable q.1 q.2) ++ jw_n4.map (fun q => .declares q)))
theorem jt_n1 (i : Nat) {q : String × Nat × String × String × String × String} (h : jw_n1[i]? = some q) : Cond.fieldLinkNest q.1 q.2.1 q.2.2.1 q.2.2.2.1 q.2.2.2.2.1 q.2.2.2.2.2 ∈ jw_nest := List.mem_append_left _ (List.mem_map.mpr ⟨q, List.mem_of_getElem? h, rfl⟩)
theorem jt_n2 (i : Nat) {q : String × Nat × MethodName × String} (h : jw_n2[i]? = some q) : Cond.methodLinkNest q.1 q.2.1 q.2.2.1 q.2.2.2 ∈ jw_nest := List.mem_append_right _ (List.mem_append_left _ (List.mem_map.mpr ⟨q, List.mem_of_getElem? h, rfl⟩))
theorem jt_se {q : MethodName × Nat} (h : q ∈ lw_privs) : Cond.selects q.1.cls q.1 q.1 ∈ jw_big := List.mem_filter.mpr ⟨List.mem_append_left _ (List.mem_map.mpr ⟨q, h, rfl⟩), rfl⟩
def jc_T0 : u_T := fun k => match k with
  | 0 => ("TemplateEngine", "line", "LTemplateEngine$Text;", true)
  | 1 => ("TemplateEngine", "data", "[LTemplateEngine$Value;", true)
  | 2 => ("TemplateEngine", "dataCount", "I", false)
  | 3 => ("TemplateEngine", "searches", "I", false)
  | 4 => ("TemplateEngine", "templates", "[LTemplateEngine$Part;", true)
  | 5 => ("TemplateEngine", "fault", "I", false)
  | 6 => ("TemplateEngine", "renderer", "LTemplateEngine$Renderer;", true)
  | _ => ("TemplateEngine", "threw", "I", false)
def jc_t0 : Nat → FieldType := fun k => match k with
  | 0 => .object "TemplateEngine$Text"
  | 1 => .array (.object "TemplateEngine$Value")
  | 2 => .int
  | 3 => .int
  | 4 => .array (.object "TemplateEngine$Part")
  | 5 => .int
  | 6 => .object "TemplateEngine$Renderer"
  | _ => .int
def jc_T1 : u_T := fun k => match k with
  | 0 => ("TemplateEngine$Text", "chars", "[C", true)
  | _ => ("TemplateEngine$Text", "length", "I", false)
def jc_t1 : Nat → FieldType := fun k => match k with
  | 0 => .array (.char)
  | _ => .int
def jc_T2 : u_T := fun k => match k with
  | 0 => ("TemplateEngine$Value", "kind", "I", false)
  | 1 => ("TemplateEngine$Value", "number", "I", false)
  | 2 => ("TemplateEngine$Value", "text", "LTemplateEngine$Text;", false)
  | 3 => ("TemplateEngine$Value", "entries", "[LTemplateEngine$Value;", false)
  | 4 => ("TemplateEngine$Value", "names", "[J", false)
  | 5 => ("TemplateEngine$Value", "size", "I", false)
  | _ => ("TemplateEngine$Value", "lastSearch", "I", false)
def jc_t2 : Nat → FieldType := fun k => match k with
  | 0 => .int
  | 1 => .int
  | 2 => .object "TemplateEngine$Text"
  | 3 => .array (.object "TemplateEngine$Value")
  | 4 => .array (.long)
  | 5 => .int
  | _ => .int
def jc_T3 : u_T := fun k => match k with
  | 0 => ("TemplateEngine$Renderer", "contexts", "[LTemplateEngine$Value;", true)
  | 1 => ("TemplateEngine$Renderer", "contextCount", "I", false)
  | 2 => ("TemplateEngine$Renderer", "slots", "[LTemplateEngine$Value;", true)
  | 3 => ("TemplateEngine$Renderer", "secondSlot", "LTemplateEngine$Value;", true)
  | 4 => ("TemplateEngine$Renderer", "left", "LTemplateEngine$Text;", true)
  | 5 => ("TemplateEngine$Renderer", "right", "LTemplateEngine$Text;", true)
  | 6 => ("TemplateEngine$Renderer", "result", "LTemplateEngine$Text;", false)
  | 7 => ("TemplateEngine$Renderer", "rendered", "LTemplateEngine$Text;", false)
  | 8 => ("TemplateEngine$Renderer", "templates", "[LTemplateEngine$Part;", false)
  | 9 => ("TemplateEngine$Renderer", "underWay", "I", false)
  | 10 => ("TemplateEngine$Renderer", "turn", "I", false)
  | 11 => ("TemplateEngine$Renderer", "tagsMet", "I", false)
  | _ => ("TemplateEngine$Renderer", "tagsRendered", "I", false)
def jc_t3 : Nat → FieldType := fun k => match k with
  | 0 => .array (.object "TemplateEngine$Value")
  | 1 => .int
  | 2 => .array (.object "TemplateEngine$Value")
  | 3 => .object "TemplateEngine$Value"
  | 4 => .object "TemplateEngine$Text"
  | 5 => .object "TemplateEngine$Text"
  | 6 => .object "TemplateEngine$Text"
  | 7 => .object "TemplateEngine$Text"
  | 8 => .array (.object "TemplateEngine$Part")
  | 9 => .int
  | 10 => .int
  | 11 => .int
  | _ => .int
def jc_T4 : u_T := fun k => match k with
  | 0 => ("TemplateEngine$TemplateReader", "source", "LTemplateEngine$Text;", true)
  | 1 => ("TemplateEngine$TemplateReader", "root", "LTemplateEngine$Part;", true)
  | 2 => ("TemplateEngine$TemplateReader", "open", "[LTemplateEngine$Part;", true)
  | 3 => ("TemplateEngine$TemplateReader", "openBlocks", "I", false)
  | 4 => ("TemplateEngine$TemplateReader", "last", "LTemplateEngine$Part;", false)
  | 5 => ("TemplateEngine$TemplateReader", "tags", "I", false)
  | 6 => ("TemplateEngine$TemplateReader", "fault", "I", false)
  | 7 => ("TemplateEngine$TemplateReader", "cursor", "I", false)
  | 8 => ("TemplateEngine$TemplateReader", "end", "I", false)
  | _ => ("TemplateEngine$TemplateReader", "steps", "[J", true)
def jc_t4 : Nat → FieldType := fun k => match k with
  | 0 => .object "TemplateEngine$Text"
  | 1 => .object "TemplateEngine$Part"
  | 2 => .array (.object "TemplateEngine$Part")
  | 3 => .int
  | 4 => .object "TemplateEngine$Part"
  | 5 => .int
  | 6 => .int
  | 7 => .int
  | 8 => .int
  | _ => .array (.long)
def jc_T5 : u_T := fun k => match k with
  | 0 => ("TemplateEngine$Part", "sort", "LTemplateEngine$Sort;", true)
  | 1 => ("TemplateEngine$Part", "place", "I", true)
  | 2 => ("TemplateEngine$Part", "plain", "LTemplateEngine$Text;", false)
  | 3 => ("TemplateEngine$Part", "expression", "LTemplateEngine$Expression;", false)
  | 4 => ("TemplateEngine$Part", "partial", "I", false)
  | 5 => ("TemplateEngine$Part", "next", "LTemplateEngine$Part;", false)
  | 6 => ("TemplateEngine$Part", "body", "LTemplateEngine$Part;", false)
  | 7 => ("TemplateEngine$Part", "other", "LTemplateEngine$Part;", false)
  | _ => ("TemplateEngine$Part", "hasElse", "Z", false)
def jc_t5 : Nat → FieldType := fun k => match k with
  | 0 => .object "TemplateEngine$Sort"
  | 1 => .int
  | 2 => .object "TemplateEngine$Text"
  | 3 => .object "TemplateEngine$Expression"
  | 4 => .int
  | 5 => .object "TemplateEngine$Part"
  | 6 => .object "TemplateEngine$Part"
  | 7 => .object "TemplateEngine$Part"
  | _ => .boolean
def jc_T6 : u_T := fun k => match k with
  | 0 => ("TemplateEngine$Expression", "helper", "LTemplateEngine$Helper;", true)
  | 1 => ("TemplateEngine$Expression", "first", "LTemplateEngine$Operand;", true)
  | _ => ("TemplateEngine$Expression", "second", "LTemplateEngine$Operand;", true)
def jc_t6 : Nat → FieldType := fun k => match k with
  | 0 => .object "TemplateEngine$Helper"
  | 1 => .object "TemplateEngine$Operand"
  | _ => .object "TemplateEngine$Operand"
def jc_T7 : u_T := fun k => match k with
  | 0 => ("TemplateEngine$Operand", "sort", "LTemplateEngine$OperandSort;", true)
  | 1 => ("TemplateEngine$Operand", "literal", "LTemplateEngine$Value;", false)
  | 2 => ("TemplateEngine$Operand", "back", "I", false)
  | _ => ("TemplateEngine$Operand", "steps", "[J", false)
def jc_t7 : Nat → FieldType := fun k => match k with
  | 0 => .object "TemplateEngine$OperandSort"
  | 1 => .object "TemplateEngine$Value"
  | 2 => .int
  | _ => .array (.long)
def jc_T8 : u_T := fun k => match k with
  | 0 => ("TemplateEngineModel", "code", "I", false)
  | 1 => ("TemplateEngineModel", "threw", "I", false)
  | 2 => ("TemplateEngineModel", "typed", "I", false)
  | 3 => ("TemplateEngineModel", "error", "I", false)
  | 4 => ("TemplateEngineModel", "data", "I", false)
  | 5 => ("TemplateEngineModel", "seen", "I", false)
  | 6 => ("TemplateEngineModel", "lastSeen", "I", false)
  | 7 => ("TemplateEngineModel", "line", "[C", true)
  | 8 => ("TemplateEngineModel", "kind", "[I", true)
  | 9 => ("TemplateEngineModel", "many", "[I", true)
  | 10 => ("TemplateEngineModel", "texts", "[I", true)
  | 11 => ("TemplateEngineModel", "part", "[I", true)
  | 12 => ("TemplateEngineModel", "name", "[J", true)
  | 13 => ("TemplateEngineModel", "marked", "[Z", true)
  | 14 => ("TemplateEngineModel", "text", "[C", true)
  | 15 => ("TemplateEngineModel", "length", "[I", true)
  | 16 => ("TemplateEngineModel", "tags", "[I", true)
  | 17 => ("TemplateEngineModel", "there", "[Z", true)
  | 18 => ("TemplateEngineModel", "begin", "[I", true)
  | 19 => ("TemplateEngineModel", "end", "[I", true)
  | 20 => ("TemplateEngineModel", "from", "[I", true)
  | 21 => ("TemplateEngineModel", "to", "[I", true)
  | 22 => ("TemplateEngineModel", "sort", "[I", true)
  | 23 => ("TemplateEngineModel", "other", "[I", true)
  | 24 => ("TemplateEngineModel", "last", "[I", true)
  | 25 => ("TemplateEngineModel", "open", "[I", true)
  | 26 => ("TemplateEngineModel", "is", "[I", true)
  | 27 => ("TemplateEngineModel", "num", "[I", true)
  | 28 => ("TemplateEngineModel", "size", "[I", true)
  | 29 => ("TemplateEngineModel", "words", "[C", true)
  | 30 => ("TemplateEngineModel", "raw", "[C", true)
  | 31 => ("TemplateEngineModel", "out", "[C", true)
  | 32 => ("TemplateEngineModel", "result", "[C", true)
  | 33 => ("TemplateEngineModel", "rawSize", "I", false)
  | 34 => ("TemplateEngineModel", "outSize", "I", false)
  | 35 => ("TemplateEngineModel", "resultSize", "I", false)
  | 36 => ("TemplateEngineModel", "contexts", "I", false)
  | 37 => ("TemplateEngineModel", "under", "I", false)
  | 38 => ("TemplateEngineModel", "fail", "I", false)
  | 39 => ("TemplateEngineModel", "rawDeep", "I", false)
  | 40 => ("TemplateEngineModel", "inside", "[I", true)
  | 41 => ("TemplateEngineModel", "tagOf", "[I", true)
  | 42 => ("TemplateEngineModel", "turn", "[I", true)
  | 43 => ("TemplateEngineModel", "over", "[I", true)
  | 44 => ("TemplateEngineModel", "listOf", "[I", true)
  | 45 => ("TemplateEngineModel", "nextOf", "[I", true)
  | 46 => ("TemplateEngineModel", "isOther", "[Z", true)
  | _ => ("TemplateEngineModel", "isPartial", "[Z", true)
def jc_t8 : Nat → FieldType := fun k => match k with
  | 0 => .int
  | 1 => .int
  | 2 => .int
  | 3 => .int
  | 4 => .int
  | 5 => .int
  | 6 => .int
  | 7 => .array (.char)
  | 8 => .array (.int)
  | 9 => .array (.int)
  | 10 => .array (.int)
  | 11 => .array (.int)
  | 12 => .array (.long)
  | 13 => .array (.boolean)
  | 14 => .array (.char)
  | 15 => .array (.int)
  | 16 => .array (.int)
  | 17 => .array (.boolean)
  | 18 => .array (.int)
  | 19 => .array (.int)
  | 20 => .array (.int)
  | 21 => .array (.int)
  | 22 => .array (.int)
  | 23 => .array (.int)
  | 24 => .array (.int)
  | 25 => .array (.int)
  | 26 => .array (.int)
  | 27 => .array (.int)
  | 28 => .array (.int)
  | 29 => .array (.char)
  | 30 => .array (.char)
  | 31 => .array (.char)
  | 32 => .array (.char)
  | 33 => .int
  | 34 => .int
  | 35 => .int
  | 36 => .int
  | 37 => .int
  | 38 => .int
  | 39 => .int
  | 40 => .array (.int)
  | 41 => .array (.int)
  | 42 => .array (.int)
  | 43 => .array (.int)
  | 44 => .array (.int)
  | 45 => .array (.int)
  | 46 => .array (.boolean)
  | _ => .array (.boolean)
def jc_cl : List vw_C := [("TemplateEngine", jc_T0, 8), ("TemplateEngine$Text", jc_T1, 2), ("TemplateEngine$Value", jc_T2, 7), ("TemplateEngine$Renderer", jc_T3, 13), ("TemplateEngine$TemplateReader", jc_T4, 10), ("TemplateEngine$Part", jc_T5, 9), ("TemplateEngine$Expression", jc_T6, 3), ("TemplateEngine$Operand", jc_T7, 4), ("TemplateEngineModel", jc_T8, 48)]
def jc_ty (ci : Nat) : Nat → FieldType := match ci with
  | 0 => jc_t0
  | 1 => jc_t1
  | 2 => jc_t2
  | 3 => jc_t3
  | 4 => jc_t4
  | 5 => jc_t5
  | 6 => jc_t6
  | 7 => jc_t7
  | _ => jc_t8
def jc_at (t : Nat) : FieldType := match t with
  | 0 => .char
  | 1 => .int
  | 2 => .long
  | 3 => .boolean
  | 4 => .object "TemplateEngine$Value"
  | _ => .object "TemplateEngine$Part"
def jc_an : Nat := 6
def jc_strs : List (String × Nat × String) := [("TemplateEngine", 46, "no character 0 .. 127"), ("TemplateEngine", 56, "THE LINE is full"), ("TemplateEngine$Text", 21, "the text would be too long"), ("TemplateEngine", 66, "60 DATA were made"), ("TemplateEngine", 96, "no such DATA"), ("TemplateEngine", 106, "no LIST, or it would contain itself"), ("TemplateEngine", 111, "the LIST has 10"), ("TemplateEngine", 121, "no MAP, it would contain itself, or THE LINE is no NAME"), ("TemplateEngine", 127, "the MAP has 10 others"), ("TemplateEngine", 131, "no TEMPLATE 0 .. 3"), ("TemplateEngine$TemplateReader", 47, "{{"), ("TemplateEngine$TemplateReader", 57, "{{{"), ("TemplateEngine$TemplateReader", 63, "}}}"), ("TemplateEngine$TemplateReader", 65, "}}"), ("TemplateEngine$TemplateReader", 164, "!"), ("TemplateEngine$TemplateReader", 173, "#if "), ("TemplateEngine$TemplateReader", 175, "#each "), ("TemplateEngine$TemplateReader", 177, "#with "), ("TemplateEngine$TemplateReader", 179, "> "), ("TemplateEngine$TemplateReader", 184, "else"), ("TemplateEngine$TemplateReader", 192, "/if"), ("TemplateEngine$TemplateReader", 197, "/each"), ("TemplateEngine$TemplateReader", 202, "/with"), ("TemplateEngine$TemplateReader", 263, "\""), ("TemplateEngine$TemplateReader", 268, "@index"), ("TemplateEngine$TemplateReader", 281, "@first"), ("TemplateEngine$TemplateReader", 315, "../"), ("TemplateEngine$TemplateReader", 321, "this"), ("TemplateEngine$TemplateReader", 323, "."), ("TemplateEngine$TemplateReader", 238, " "), ("TemplateEngine", 143, "the template has a FAULT"), ("TemplateEngine", 152, "no such TEMPLATE or DATA"), ("TemplateEngine$Renderer", 140, "a 601st TAG would be come to"), ("TemplateEngine$Renderer", 273, "[map]"), ("TemplateEngine$Text", 39, "&amp;"), ("TemplateEngine$Text", 44, "&lt;"), ("TemplateEngine$Text", 46, "&gt;"), ("TemplateEngine$Text", 48, "&quot;"), ("TemplateEngine$Renderer", 147, "no such partial"), ("TemplateEngine$Renderer", 152, "a 4th TEMPLATE would be under way"), ("TemplateEngine", 161, "no such character"), ("TemplateEngine$Helper", 53, ""), ("TemplateEngine$Helper", 59, "up "), ("TemplateEngine$Helper", 62, "len "), ("TemplateEngine$Helper", 65, "not "), ("TemplateEngine$Helper", 68, "add "), ("TemplateEngine$Helper", 71, "eq "), ("TemplateEngine$Helper", 74, "at ")]
end
section
/-! THE HEAP AS FUNCTIONS. jh_H: the cells of ours, in the order in which they were made; their kinds (a class's number and how many fields; 100 + an array type's number and the length); int, long and reference fields; ints, longs and references in arrays. -/
abbrev jh_H : Type := List Nat × (Nat → Nat × Nat) × (Nat → Nat → Int32) × (Nat → Nat → Int64) × (Nat → Nat → Option Nat) × (Nat → Nat → Int32) × (Nat → Nat → Int64) × (Nat → Nat → Option Nat)
def jh_L (h : jh_H) : List Nat := h.1
def jh_K (h : jh_H) : Nat → Nat × Nat := h.2.1
def jh_i (h : jh_H) : Nat → Nat → Int32 := h.2.2.1
def jh_g (h : jh_H) : Nat → Nat → Int64 := h.2.2.2.1
def jh_r (h : jh_H) : Nat → Nat → Option Nat := h.2.2.2.2.1
def jh_I (h : jh_H) : Nat → Nat → Int32 := h.2.2.2.2.2.1
def jh_G (h : jh_H) : Nat → Nat → Int64 := h.2.2.2.2.2.2.1
def jh_R (h : jh_H) : Nat → Nat → Option Nat := h.2.2.2.2.2.2.2
def jh_u {α : Type} (f : Nat → Nat → α) (a k : Nat) (v : α) : Nat → Nat → α := fun b j => if b = a then (if j = k then v else f b j) else f b j
def jh_z {α : Type} (f : Nat → Nat → α) (a : Nat) (v : α) : Nat → Nat → α := fun b j => if b = a then v else f b j
def jh_si (h : jh_H) (a k : Nat) (v : Int32) : jh_H := (jh_L h, jh_K h, jh_u (jh_i h) a k v, jh_g h, jh_r h, jh_I h, jh_G h, jh_R h)
def jh_sg (h : jh_H) (a k : Nat) (v : Int64) : jh_H := (jh_L h, jh_K h, jh_i h, jh_u (jh_g h) a k v, jh_r h, jh_I h, jh_G h, jh_R h)
def jh_sr (h : jh_H) (a k : Nat) (v : Option Nat) : jh_H := (jh_L h, jh_K h, jh_i h, jh_g h, jh_u (jh_r h) a k v, jh_I h, jh_G h, jh_R h)
def jh_sI (h : jh_H) (a k : Nat) (v : Int32) : jh_H := (jh_L h, jh_K h, jh_i h, jh_g h, jh_r h, jh_u (jh_I h) a k v, jh_G h, jh_R h)
def jh_sG (h : jh_H) (a k : Nat) (v : Int64) : jh_H := (jh_L h, jh_K h, jh_i h, jh_g h, jh_r h, jh_I h, jh_u (jh_G h) a k v, jh_R h)
def jh_sR (h : jh_H) (a k : Nat) (v : Option Nat) : jh_H := (jh_L h, jh_K h, jh_i h, jh_g h, jh_r h, jh_I h, jh_G h, jh_u (jh_R h) a k v)
def jh_nw (h : jh_H) (q kd n : Nat) : jh_H := (jh_L h ++ [q], va_up (jh_K h) q (kd, n), jh_z (jh_i h) q 0, jh_z (jh_g h) q 0, jh_z (jh_r h) q none, jh_z (jh_I h) q 0, jh_z (jh_G h) q 0, jh_z (jh_R h) q none)
theorem jh_u_s {α : Type} (f : Nat → Nat → α) (a k : Nat) (v : α) : jh_u f a k v a k = v := by simp [jh_u]
theorem jh_u_k {α : Type} (f : Nat → Nat → α) (a b : Nat) {k j : Nat} (v : α) (h : j ≠ k) : jh_u f a k v b j = f b j := by simp [jh_u, h]
theorem jh_u_a {α : Type} (f : Nat → Nat → α) {a b : Nat} (k j : Nat) (v : α) (h : b ≠ a) : jh_u f a k v b j = f b j := by simp [jh_u, h]
theorem jh_z_s {α : Type} (f : Nat → Nat → α) (a j : Nat) (v : α) : jh_z f a v a j = v := by simp [jh_z]
theorem jh_z_a {α : Type} (f : Nat → Nat → α) {a b : Nat} (j : Nat) (v : α) (h : b ≠ a) : jh_z f a v b j = f b j := by simp [jh_z, h]
/-- the sort of a type: 0 as an int, 1 a long, 2 a reference -/
def jc_so (t : FieldType) : Nat := match t with
  | .long => 1
  | .object _ => 2
  | .array _ => 2
  | _ => 0
def jc_q (ci : Nat) : vw_C := jc_cl.getD ci ("", fun _ => ("", "", "", false), 0)
def jh_fv (h : jh_H) (a ci k : Nat) : Value := match jc_so (jc_ty ci k) with
  | 0 => .int (jh_i h a (64 * ci + k))
  | 1 => .long (jh_g h a (64 * ci + k))
  | _ => va_rf (jh_r h a (64 * ci + k))
def jh_ac (h : jh_H) (a t : Nat) : (Nat → Int32) ⊕ (Nat → Int64) ⊕ (Nat → UInt32) ⊕ (Nat → UInt64) ⊕ (Nat → Option Nat) := match jc_so (jc_at t) with
  | 0 => .inl (jh_I h a)
  | 1 => .inr (.inl (jh_G h a))
  | _ => .inr (.inr (.inr (.inr (jh_R h a))))
/-- what is fixed: the launch, the classes' numbers and slots, the arrays' classes, the first address of ours, the addresses of constants -/
abbrev jg_G : Type := Launch × va_G × (Nat → ClassId) × Nat × (Nat → Nat)
abbrev jg_l (g : jg_G) : Launch := g.1
abbrev jg_D (g : jg_G) : va_G := g.2.1
abbrev jg_A (g : jg_G) : Nat → ClassId := g.2.2.1
abbrev jg_b (g : jg_G) : Nat := g.2.2.2.1
abbrev jg_c (g : jg_G) : Nat → Nat := g.2.2.2.2
def jg_S (g : jg_G) : Nat → Prop := fun q => jg_b g ≤ q
def jg_t (g : jg_G) : List (ClassId × FieldType) := (List.range jc_an).map (fun t => (jg_A g t, jc_at t))
theorem jg_t_at (g : jg_G) {t : Nat} (h : t < jc_an) : (jg_t g)[t]? = some (jg_A g t, jc_at t) := by
  simp [jg_t, h]
def jh_E (g : jg_G) (h : jh_H) (a : Nat) : va_E := if (jh_K h a).1 < 100 then .inr ((jh_K h a).1, (List.range (jh_K h a).2).map (jh_fv h a (jh_K h a).1)) else .inl (jg_A g ((jh_K h a).1 - 100), (jh_K h a).2, jh_ac h a ((jh_K h a).1 - 100))
def jh_W (g : jg_G) (h : jh_H) : va_W := va_pl (jh_L h) (jh_E g h)
/-- the heap H holds h -/
def jh_P (g : jg_G) (h : jh_H) (H : Heap) : Prop := va_P (jg_D g) jc_cl (jh_W g h) H ∧ va_D (jg_S g) (jh_W g h)
/-- an object of class ci; an array of type t and length n -/
def jh_O (h : jh_H) (a ci : Nat) : Prop := a ∈ jh_L h ∧ jh_K h a = (ci, (jc_q ci).2.2)
def jh_A (h : jh_H) (a t n : Nat) : Prop := a ∈ jh_L h ∧ jh_K h a = (100 + t, n)
theorem jh_E_O {g : jg_G} {h : jh_H} {a ci : Nat} (hc : ci < 100) (ho : jh_O h a ci) : jh_E g h a = .inr (ci, (List.range (jc_q ci).2.2).map (jh_fv h a ci)) := by
  simp only [jh_E, ho.2, if_pos hc]
theorem jh_E_A {g : jg_G} {h : jh_H} {a t n : Nat} (ho : jh_A h a t n) : jh_E g h a = .inl (jg_A g t, n, jh_ac h a t) := by
  have h1 : ¬ (100 + t < 100) := by omega
  have h2 : 100 + t - 100 = t := by omega
  simp only [jh_E, ho.2, if_neg h1, h2]
theorem jh_at {g : jg_G} {h : jh_H} {a : Nat} (ha : a ∈ jh_L h) : ∃ k : Nat, (jh_W g h)[k]? = some (a, jh_E g h a) := va_pl_get (X := []) ha
/-- one cell changes -/
theorem jh_set {g : jg_G} {h h' : jh_H} {a k : Nat} {e : va_E} (hD : va_D (jg_S g) (jh_W g h)) (ha : a ∈ jh_L h) (hk : (jh_W g h)[k]? = some (a, jh_E g h a)) (hL : jh_L h' = jh_L h) (he : jh_E g h' a = e) (ho : ∀ b, b ≠ a → jh_E g h' b = jh_E g h b) : (jh_W g h).set k (a, e) = jh_W g h' := by
  have h1 := va_pl_set (A := jg_S g) (X := []) (L := jh_L h) (f := jh_E g h) (a := a) (k := k) (e := e) hD ha hk
  rw [List.nil_append, List.nil_append] at h1
  rw [jh_W, h1, jh_W, hL]
  refine va_pl_congr (fun b => ?_)
  by_cases hb : b = a
  · subst hb; rw [va_up_self, he]
  · rw [va_up_ne _ _ hb, ho b hb]
theorem jh_fv_o {h h' : jh_H} {b : Nat} (e1 : jh_i h' b = jh_i h b) (e2 : jh_g h' b = jh_g h b) (e3 : jh_r h' b = jh_r h b) (ci : Nat) : jh_fv h' b ci = jh_fv h b ci := by
  funext k
  simp only [jh_fv, e1, e2, e3]
theorem jh_E_o {g : jg_G} {h h' : jh_H} {b : Nat} (e0 : jh_K h' b = jh_K h b) (e1 : jh_i h' b = jh_i h b) (e2 : jh_g h' b = jh_g h b) (e3 : jh_r h' b = jh_r h b) (e4 : jh_I h' b = jh_I h b) (e5 : jh_G h' b = jh_G h b) (e6 : jh_R h' b = jh_R h b) : jh_E g h' b = jh_E g h b := by
  simp only [jh_E, e0, jh_fv_o e1 e2 e3, jh_ac, e4, e5, e6]
theorem jh_u_row {α : Type} (f : Nat → Nat → α) {a b : Nat} (k : Nat) (v : α) (h : b ≠ a) : jh_u f a k v b = f b := by
  funext j; simp [jh_u, h]
theorem jh_z_row {α : Type} (f : Nat → Nat → α) {a b : Nat} (v : α) (h : b ≠ a) : jh_z f a v b = f b := by
  funext j; simp [jh_z, h]
theorem jh_P.kept {g : jg_G} {h : jh_H} {H H1 : Heap} (hp : jh_P g h H) (hq : ∀ q : Nat, q < H.size → H1[q]? = H[q]?) : jh_P g h H1 :=
  ⟨fun k q hk => va_at.kept (hp.1 k q hk) (hq _ (va_at.lt (hp.1 k q hk))), hp.2⟩
theorem jh_fresh {g : jg_G} {h : jh_H} {H : Heap} (hp : jh_P g h H) {a : Nat} (ha : H.size ≤ a) : a ∉ jh_L h := va_pl_fresh (X := []) (L := jh_L h) (f := jh_E g h) hp.1 ha
end
section
/-! CONSTANTS: what lies in the heap from the start, and nobody writes; links across the nest -/
def jc_con (g : jg_G) (U : State) (H : Heap) : Prop := ((∀ (n : Nat) (q : String × Nat × String), jc_strs[n]? = some q → vk_R q.1 q.2.1 q.2.2 (jg_c g n) U) ∧ vx_Zq Jvm.Bundle.tN "UNASSIGNED_STACK" Jvm.Bundle.steD (jg_S g) U H ∧ vx_Zq Jvm.Bundle.tN "SUPPRESSED_SENTINEL" Jvm.Bundle.listD (jg_S g) U H) ∧ (∀ w ∈ jw_nest, va_Nw w U) ∧ (∀ t C, t < jc_an → jc_at t = .object C → va_AO C U)
theorem jw_nest_el {P : Cond → Prop} (h1 : ∀ a i b n d ho, P (.fieldLinkNest a i b n d ho)) (h2 : ∀ a i x ho, P (.methodLinkNest a i x ho)) (h3 : ∀ a b, P (.castable a b)) (h4 : ∀ x, P (.declares x)) : ∀ w ∈ jw_nest, P w := by
  intro w hw
  rcases List.mem_append.mp hw with hw | hw
  · obtain ⟨q, -, rfl⟩ := List.mem_map.mp hw; exact h1 _ _ _ _ _ _
  rcases List.mem_append.mp hw with hw | hw
  · obtain ⟨q, -, rfl⟩ := List.mem_map.mp hw; exact h2 _ _ _ _
  rcases List.mem_append.mp hw with hw | hw
  · obtain ⟨q, -, rfl⟩ := List.mem_map.mp hw; exact h3 _ _
  · obtain ⟨q, -, rfl⟩ := List.mem_map.mp hw; exact h4 _
theorem jw_nest_moved {u U : State} (hW : u.WarmedH U.vm) (h : ∀ w ∈ jw_nest, va_Nw w u) : ∀ w ∈ jw_nest, va_Nw w U := fun w hw =>
  jw_nest_el (P := fun w => va_Nw w u → va_Nw w U) (fun _ _ _ _ _ _ z => va_Nw.warmF hW z) (fun _ _ _ _ z => va_Nw.warmM hW z) (fun _ _ z => va_Nw.warmC hW z) (fun _ z => va_Nw.warmD hW z) w hw (h w hw)
theorem jw_nest_tab : ∀ w ∈ jw_nest, w.onTables = true := jw_nest_el (fun _ _ _ _ _ _ => rfl) (fun _ _ _ _ => rfl) (fun _ _ => rfl) (fun _ => rfl)
theorem jw_nest_same {u U : State} (hv : U.vm = u.vm) (h : ∀ w ∈ jw_nest, va_Nw w u) : ∀ w ∈ jw_nest, va_Nw w U := fun w hw => va_Nw.same (jw_nest_tab w hw) hv.symm (h w hw)
theorem jc_con_moved {g : jg_G} {u U : State} {H : Heap} (hW : u.WarmedH U.vm) (h : jc_con g u H) : jc_con g U H := ⟨⟨fun n q hq => vk_R.warm hW (h.1.1 n q hq), vx_Zq.moved hW.alike h.1.2.1, vx_Zq.moved hW.alike h.1.2.2⟩, jw_nest_moved hW h.2.1, fun t C h1 h2 => va_AO.moved hW.alike (h.2.2 t C h1 h2)⟩
theorem jc_con_same {g : jg_G} {u U : State} {H : Heap} (hv : U.vm = u.vm) (h : jc_con g u H) : jc_con g U H := by
  have ha : u.vm.Alike U.vm := by rw [hv]; exact Vm.Alike.refl _
  exact ⟨⟨fun n q hq => vk_R.same hv (h.1.1 n q hq), vx_Zq.moved ha h.1.2.1, vx_Zq.moved ha h.1.2.2⟩, jw_nest_same hv h.2.1, fun t C h1 h2 => va_AO.moved ha (h.2.2 t C h1 h2)⟩
theorem jc_con_kept {g : jg_G} {U : State} {H H1 : Heap} (h : jc_con g U H) (hq : ∀ q : Nat, q < H.size → ¬ jg_S g q → H1[q]? = H[q]?) : jc_con g U H1 := ⟨⟨h.1.1, vx_Zq.kept h.1.2.1 hq, vx_Zq.kept h.1.2.2 hq⟩, h.2⟩
theorem jc_con_str {g : jg_G} {U : State} {H : Heap} (h : jc_con g U H) {n : Nat} {own text : String} {is : Nat} (hq : jc_strs[n]? = some (own, is, text)) : ∃ sa, vk_R own is text sa U := ⟨_, h.1.1 n _ hq⟩
theorem jc_con_U {g : jg_G} {U : State} {H : Heap} (h : jc_con g U H) : vx_Zq Jvm.Bundle.tN "UNASSIGNED_STACK" Jvm.Bundle.steD (jg_S g) U H := h.1.2.1
theorem jc_con_N {g : jg_G} {U : State} {H : Heap} (h : jc_con g U H) : vx_Zq Jvm.Bundle.tN "SUPPRESSED_SENTINEL" Jvm.Bundle.listD (jg_S g) U H := h.1.2.2
theorem jc_con_f {g : jg_G} {U : State} {H : Heap} (h : jc_con g U H) {a : String} {i : Nat} {b n d ho : String} (hw : Cond.fieldLinkNest a i b n d ho ∈ jw_nest) (A : Array Value) : (Cond.fieldLinkNest a i b n d ho).before A U = true := va_Nw.use rfl (h.2.1 _ hw)
end
section
/-! THE JUDGEMENT jw_J: the machine, in method M at pc with locals ls, operand stack st and heap h, with room for kc cells of ks slots, comes to an end with Q. -/
abbrev jw_B : Type := Nat → Option (Instr × Nat)
abbrev jw_M : Type := MethodName × ByteArray × Nat × Option FieldType × jw_B
/-- a value: an int, a long, a reference -/
abbrev jV : Type := Int32 ⊕ Int64 ⊕ Option Nat
abbrev jw_O : Type := Option jV ⊕ String
def jv (x : jV) : Value := match x with
  | .inl x => .int x
  | .inr (.inl x) => .long x
  | .inr (.inr r) => va_rf r
def jv_c (x : jV) : Nat := match x with
  | .inr (.inl _) => 2
  | _ => 1
def lo_has (arr : Array Slot) (nL : Nat) (ls : List (Option jV)) : Prop := arr.size = nL ∧ lv_wf arr ∧ ∀ (i : Nat) (v : jV), ls[i]? = some (some v) → arr[i]? = some (.val (jv v))
def jw_wd (g : jg_G) (U : State) : Prop := va_K (jg_D g) jc_cl (jg_t g) U ∧ jg_b g ≤ U.heap.size ∧ jc_con g U U.heap
theorem jw_wd.moved {g : jg_G} {u U : State} (hW : u.WarmedH U.vm) (h : jw_wd g u) (hz : u.heap.size ≤ U.heap.size) (hq : ∀ q : Nat, q < u.heap.size → ¬ jg_S g q → U.heap[q]? = u.heap[q]?) : jw_wd g U :=
  ⟨va_K.moved hW.alike h.1, Nat.le_trans h.2.1 hz, jc_con_kept (jc_con_moved hW h.2.2) hq⟩
theorem jw_wd.same {g : jg_G} {u U : State} (hv : U.vm = u.vm) (hh : U.heap = u.heap) (h : jw_wd g u) : jw_wd g U :=
  ⟨va_K.moved (by rw [hv]; exact Vm.Alike.refl _) h.1, by rw [hh]; exact h.2.1, by rw [hh]; exact jc_con_same hv h.2.2⟩
/-- where the method stands -/
def jw_At (g : jg_G) (M : jw_M) (d : Nat) (R : Room) (p : Program) (s : State) (m : MethodId) (args : Array Value) (meth : Method) (c : Code) : Prop :=
  p.tables.exec = Jvm.exec ∧ c.code = M.2.1 ∧ c.maxLocals = M.2.2.1 ∧ s.vm.findClass M.1.cls = some m.cls ∧ (∀ w ∈ jw_big, w.before args s = true) ∧ meth.sig.returnType = M.2.2.2.1 ∧ meth.locks = false ∧ meth.name = M.1.name ∧ jw_wd g s ∧ d ≤ R.frames ∧ 40 * d ≤ R.locals ∧ (jg_l g).stackTraces = false ∧ ∀ pc x, M.2.2.2.2 pc = some x → decode M.2.1 pc = .ok x
/-- the instruction by which v goes back -/
def jw_rt (M : jw_M) (pc : Nat) (v : Option jV) : Prop :=
  (∃ x, v = some (.inl x) ∧ decode M.2.1 pc = .ok (.ireturn, 1) ∧ ∃ ty, M.2.2.2.1 = some ty ∧ narrow ty (.int x) = .int x) ∨ (∃ x, v = some (.inr (.inl x)) ∧ decode M.2.1 pc = .ok (.lreturn, 1) ∧ M.2.2.2.1 = some .long) ∨ (∃ r, v = some (.inr (.inr r)) ∧ decode M.2.1 pc = .ok (.areturn, 1) ∧ ∃ ty, M.2.2.2.1 = some ty ∧ ((∃ n, ty = .object n) ∨ ∃ t, ty = .array t)) ∨ (v = none ∧ decode M.2.1 pc = .ok (.return_, 1) ∧ M.2.2.2.1 = none)
/-- a place where E is made with a text and thrown -/
def jw_ts (M : jw_M) (pc : Nat) (E : String) : Prop := ∃ (names : List String) (ik is ic n : Nat) (text : String),
  Jvm.Bundle.fit E = true ∧ (∀ x ∈ names, Jvm.Bundle.fit x = true) ∧ Cond.classLink M.1.cls ik E ∈ jw_big ∧ Cond.initialized E ∈ jw_big ∧ (∀ w ∈ vx_atS M.1.cls ic E names, w ∈ jw_big ∨ w ∈ jw_nest) ∧ (∀ w ∈ Cond.classLink M.1.cls ik E :: Cond.initialized E :: vx_atS M.1.cls ic E names, vx_ot w = true) ∧
  jc_strs[n]? = some (M.1.cls, is, text) ∧ decode M.2.1 pc = .ok (.new ik, 3) ∧ decode M.2.1 (pc + 3) = .ok (.dup, 1) ∧ decode M.2.1 (pc + 4) = .ok (.ldc is, 2) ∧ decode M.2.1 (pc + 6) = .ok (.invokespecial ic, 3) ∧ decode M.2.1 (pc + 9) = .ok (.athrow, 1) ∧ names.length ≤ 5
/-- the ends -/
def jw_Ex (g : jg_G) (M : jw_M) (R : Room) (p : Program) (e : Env) (s : State) (m : MethodId) (args : Array Value) (below : List Frame) (meth : Method) (c : Code) (Z : State → Prop) (Q : jw_O → jh_H → Prop) : Prop :=
  (∀ v h', Q (.inl v) h' → ∀ H locs cells slots pc arr, jh_P g h' H → va_S (jg_S g) s.heap H locs → cells ≤ R.cells → slots ≤ R.slots → jw_rt M pc v → W p (jg_l g) e R s m args below meth c H locs cells slots Z (F0 m pc arr (v.toList.map jv))) ∧
  (∀ E h', Q (.inr E) h' → (∀ H locs cells slots pc arr rest q ce, jh_P g h' H → va_S (jg_S g) s.heap H locs → cells ≤ R.cells → slots ≤ R.slots → H[q]? = some ce → ce.vm = .none → s.vm.findClass E = some ce.cls → (∀ x ∈ c.exceptionTable.toList, covers x pc = false) → vx_W p (jg_l g) e R s m args below meth c H locs cells slots Z (F0 m pc arr rest) q) ∧
    (∀ H locs cells slots pc arr rest, jh_P g h' H → va_S (jg_S g) s.heap H locs → arr.size = c.maxLocals → cells + 1 ≤ R.cells → slots + 6 ≤ R.slots → (rest.map fun v => v.category).sum ≤ 8 → jw_ts M pc E → (∀ x ∈ c.exceptionTable.toList, covers x (pc + 9) = false) → 10 ≤ R.frames → 200 ≤ R.locals → W p (jg_l g) e R s m args below meth c H locs cells slots Z (F0 m pc arr rest)))
def jw_J (g : jg_G) (d : Nat) (M : jw_M) (T : Code → Prop) (pc : Nat) (ls : List (Option jV)) (st : List jV) (h : jh_H) (kc ks : Nat) (Q : jw_O → jh_H → Prop) : Prop :=
  ∀ (p : Program) (e : Env) (s : State) (m : MethodId) (args : Array Value) (below : List Frame) (meth : Method) (c : Code) (R : Room) (Z : State → Prop) (H : Heap) (locs : List Loc) (cells slots : Nat) (arr : Array Slot),
    jw_At g M d R p s m args meth c → T c → jw_Ex g M R p e s m args below meth c Z Q → jh_P g h H → va_S (jg_S g) s.heap H locs → lo_has arr M.2.2.1 ls → cells + kc ≤ R.cells → slots + ks ≤ R.slots → W p (jg_l g) e R s m args below meth c H locs cells slots Z (F0 m pc arr (st.map jv))

section JWR
variable {g : jg_G} {d : Nat} {M : jw_M} {T : Code → Prop} {pc : Nat} {ls : List (Option jV)} {st : List jV} {h : jh_H} {kc ks : Nat} {Q : jw_O → jh_H → Prop}
theorem jw_iconst {n : Int} (hd : M.2.2.2.2 pc = some (.iconst n, 1)) (k : jw_J g d M T (pc + 1) ls (.inl (Int32.ofInt n) :: st) h kc ks Q) : jw_J g d M T pc ls st h kc ks Q := by
  intro p e s m args below meth c R Z H locs cells slots arr hA hT hE hP hS hl hc hs
  obtain ⟨hx, hb, hml, hown, hts, hr, hlk, hnm, hwd, hdf, hdl, hst, hok⟩ := id hA
  exact lv_iconst hx hb (hok _ _ hd) rfl (k p e s m args below meth c R Z H locs cells slots arr hA hT hE hP hS hl hc hs)
theorem jw_bipush {n : Int} (hd : M.2.2.2.2 pc = some (.bipush n, 2)) (k : jw_J g d M T (pc + 2) ls (.inl (Int8.ofInt n).toInt32 :: st) h kc ks Q) : jw_J g d M T pc ls st h kc ks Q := by
  intro p e s m args below meth c R Z H locs cells slots arr hA hT hE hP hS hl hc hs
  obtain ⟨hx, hb, hml, hown, hts, hr, hlk, hnm, hwd, hdf, hdl, hst, hok⟩ := id hA
  exact lv_bipush hx hb (hok _ _ hd) rfl (k p e s m args below meth c R Z H locs cells slots arr hA hT hE hP hS hl hc hs)
theorem jw_sipush {n : Int} (hd : M.2.2.2.2 pc = some (.sipush n, 3)) (k : jw_J g d M T (pc + 3) ls (.inl (Int16.ofInt n).toInt32 :: st) h kc ks Q) : jw_J g d M T pc ls st h kc ks Q := by
  intro p e s m args below meth c R Z H locs cells slots arr hA hT hE hP hS hl hc hs
  obtain ⟨hx, hb, hml, hown, hts, hr, hlk, hnm, hwd, hdf, hdl, hst, hok⟩ := id hA
  exact lv_sipush hx hb (hok _ _ hd) rfl (k p e s m args below meth c R Z H locs cells slots arr hA hT hE hP hS hl hc hs)
theorem jw_lconst {n : Fin 2} (hd : M.2.2.2.2 pc = some (.lconst n, 1)) (k : jw_J g d M T (pc + 1) ls (.inr (.inl (Int64.ofNat (n : Nat))) :: st) h kc ks Q) : jw_J g d M T pc ls st h kc ks Q := by
  intro p e s m args below meth c R Z H locs cells slots arr hA hT hE hP hS hl hc hs
  obtain ⟨hx, hb, hml, hown, hts, hr, hlk, hnm, hwd, hdf, hdl, hst, hok⟩ := id hA
  exact lv_lconst hx hb (hok _ _ hd) rfl (k p e s m args below meth c R Z H locs cells slots arr hA hT hE hP hS hl hc hs)
theorem jw_null (hd : M.2.2.2.2 pc = some (.aconst_null, 1)) (k : jw_J g d M T (pc + 1) ls (.inr (.inr none) :: st) h kc ks Q) : jw_J g d M T pc ls st h kc ks Q := by
  intro p e s m args below meth c R Z H locs cells slots arr hA hT hE hP hS hl hc hs
  obtain ⟨hx, hb, hml, hown, hts, hr, hlk, hnm, hwd, hdf, hdl, hst, hok⟩ := id hA
  exact lv_null hx hb (hok _ _ hd) (k p e s m args below meth c R Z H locs cells slots arr hA hT hE hP hS hl hc hs)
theorem jw_iload_n {k : Fin 4} {x : Int32} (hd : M.2.2.2.2 pc = some (.iload_n k, 1)) (hv : ls[(k : Nat)]? = some (some (.inl x))) (k : jw_J g d M T (pc + 1) ls (.inl x :: st) h kc ks Q) : jw_J g d M T pc ls st h kc ks Q := by
  intro p e s m args below meth c R Z H locs cells slots arr hA hT hE hP hS hl hc hs
  obtain ⟨hx, hb, hml, hown, hts, hr, hlk, hnm, hwd, hdf, hdl, hst, hok⟩ := id hA
  exact lv_iload_n hx hb (hok _ _ hd) rfl (hl.2.2 _ _ hv) (k p e s m args below meth c R Z H locs cells slots arr hA hT hE hP hS hl hc hs)
theorem jw_iload {i : Nat} {x : Int32} (hd : M.2.2.2.2 pc = some (.iload i, 2)) (hv : ls[i]? = some (some (.inl x))) (k : jw_J g d M T (pc + 2) ls (.inl x :: st) h kc ks Q) : jw_J g d M T pc ls st h kc ks Q := by
  intro p e s m args below meth c R Z H locs cells slots arr hA hT hE hP hS hl hc hs
  obtain ⟨hx, hb, hml, hown, hts, hr, hlk, hnm, hwd, hdf, hdl, hst, hok⟩ := id hA
  exact lv_iload hx hb (hok _ _ hd) (hl.2.2 _ _ hv) (k p e s m args below meth c R Z H locs cells slots arr hA hT hE hP hS hl hc hs)
theorem jw_lload_n {k : Fin 4} {x : Int64} (hd : M.2.2.2.2 pc = some (.lload_n k, 1)) (hv : ls[(k : Nat)]? = some (some (.inr (.inl x)))) (k : jw_J g d M T (pc + 1) ls (.inr (.inl x) :: st) h kc ks Q) : jw_J g d M T pc ls st h kc ks Q := by
  intro p e s m args below meth c R Z H locs cells slots arr hA hT hE hP hS hl hc hs
  obtain ⟨hx, hb, hml, hown, hts, hr, hlk, hnm, hwd, hdf, hdl, hst, hok⟩ := id hA
  exact lv_lload_n hx hb (hok _ _ hd) rfl (hl.2.2 _ _ hv) (k p e s m args below meth c R Z H locs cells slots arr hA hT hE hP hS hl hc hs)
theorem jw_lload {i : Nat} {x : Int64} (hd : M.2.2.2.2 pc = some (.lload i, 2)) (hv : ls[i]? = some (some (.inr (.inl x)))) (k : jw_J g d M T (pc + 2) ls (.inr (.inl x) :: st) h kc ks Q) : jw_J g d M T pc ls st h kc ks Q := by
  intro p e s m args below meth c R Z H locs cells slots arr hA hT hE hP hS hl hc hs
  obtain ⟨hx, hb, hml, hown, hts, hr, hlk, hnm, hwd, hdf, hdl, hst, hok⟩ := id hA
  exact lv_lload hx hb (hok _ _ hd) (hl.2.2 _ _ hv) (k p e s m args below meth c R Z H locs cells slots arr hA hT hE hP hS hl hc hs)
theorem jw_aload_n {k : Fin 4} {r : Option Nat} (hd : M.2.2.2.2 pc = some (.aload_n k, 1)) (hv : ls[(k : Nat)]? = some (some (.inr (.inr r)))) (k : jw_J g d M T (pc + 1) ls ((.inr (.inr r)) :: st) h kc ks Q) : jw_J g d M T pc ls st h kc ks Q := by
  intro p e s m args below meth c R Z H locs cells slots arr hA hT hE hP hS hl hc hs
  obtain ⟨hx, hb, hml, hown, hts, hr, hlk, hnm, hwd, hdf, hdl, hst, hok⟩ := id hA
  cases r with
  | none => exact lv_aload_nN hx hb (hok _ _ hd) rfl (hl.2.2 _ _ hv) (k p e s m args below meth c R Z H locs cells slots arr hA hT hE hP hS hl hc hs)
  | some x => exact lv_aload_n hx hb (hok _ _ hd) rfl (hl.2.2 _ _ hv) (k p e s m args below meth c R Z H locs cells slots arr hA hT hE hP hS hl hc hs)
theorem jw_aload {i : Nat} {r : Option Nat} (hd : M.2.2.2.2 pc = some (.aload i, 2)) (hv : ls[i]? = some (some (.inr (.inr r)))) (k : jw_J g d M T (pc + 2) ls ((.inr (.inr r)) :: st) h kc ks Q) : jw_J g d M T pc ls st h kc ks Q := by
  intro p e s m args below meth c R Z H locs cells slots arr hA hT hE hP hS hl hc hs
  obtain ⟨hx, hb, hml, hown, hts, hr, hlk, hnm, hwd, hdf, hdl, hst, hok⟩ := id hA
  cases r with
  | none => exact lv_aloadN hx hb (hok _ _ hd) (hl.2.2 _ _ hv) (k p e s m args below meth c R Z H locs cells slots arr hA hT hE hP hS hl hc hs)
  | some x => exact lv_aload hx hb (hok _ _ hd) (hl.2.2 _ _ hv) (k p e s m args below meth c R Z H locs cells slots arr hA hT hE hP hS hl hc hs)
theorem jv_cat (x : jV) : (jv x).category = jv_c x := by
  rcases x with x | x | r
  · rfl
  · rfl
  · cases r <;> rfl
/-- the locals as pairs -/
def lo_as (ls : List (Option jV)) : List (Nat × Value) := (List.range ls.length).filterMap (fun i => (ls[i]?).join.map (fun v => (i, jv v)))
theorem lo_as_mem {ls : List (Option jV)} {i : Nat} {w : Value} : (i, w) ∈ lo_as ls ↔ ∃ v, ls[i]? = some (some v) ∧ w = jv v := by
  simp only [lo_as, List.mem_filterMap, List.mem_range, Option.map_eq_some_iff, Option.join_eq_some_iff, Prod.mk.injEq]
  constructor
  · rintro ⟨j, -, w, h, rfl, rfl⟩; exact ⟨w, h, rfl⟩
  · rintro ⟨v, h, rfl⟩; exact ⟨i, (List.getElem?_eq_some_iff.mp h).1, v, h, rfl, rfl⟩
theorem lo_lv {arr : Array Slot} {nL : Nat} {ls : List (Option jV)} (h : lo_has arr nL ls) : lv_has arr nL (lo_as ls) := ⟨h.1, h.2.1, fun q hq => by
  obtain ⟨v, h1, h2⟩ := lo_as_mem.mp (show (q.1, q.2) ∈ lo_as ls from hq)
  rw [h2]; exact h.2.2 q.1 v h1⟩
/-- a value stored at i does no harm to a long just before it -/
def lo_c1 (ls : List (Option jV)) (i : Nat) : Prop := ∀ (j : Nat) (w : jV), j + 1 = i → ls[j]? = some (some w) → jv_c w = 1
theorem lo_st1 {arr' : Array Slot} {nL i : Nat} {v : jV} {ls : List (Option jV)} (hp : lo_c1 ls i) (h : lv_has arr' nL ((i, jv v) :: (lo_as ls).filter (fun q => !(q.1 == i) && !(q.1 + 1 == i && q.2.category == 2)))) : lo_has arr' nL (ls.set i (some v)) := by
  refine ⟨h.1, h.2.1, fun j w hw => ?_⟩
  by_cases e : i = j
  · subst e
    rw [List.getElem?_set_self'] at hw
    cases hz : ls[i]? with
    | none => rw [hz] at hw; cases hw
    | some z => rw [hz] at hw; simp at hw; subst hw; exact h.2.2 _ List.mem_cons_self
  · rw [List.getElem?_set_ne e] at hw
    refine h.2.2 (j, jv w) (List.mem_cons_of_mem _ (List.mem_filter.mpr ⟨lo_as_mem.mpr ⟨w, hw, rfl⟩, ?_⟩))
    have e3 : ¬ j = i := fun x => e x.symm
    by_cases e2 : j + 1 = i
    · have h1 := hp j w e2 hw
      simp [e3, jv_cat, h1]
    · simp [e2, e3]
theorem lo_st2 {arr' : Array Slot} {nL i : Nat} {v : jV} {ls : List (Option jV)} (hp : lo_c1 ls i) (h : lv_has arr' nL ((i, jv v) :: (lo_as ls).filter (fun q => !(q.1 == i) && (!(q.1 == i + 1) && !(q.1 + 1 == i && q.2.category == 2))))) : lo_has arr' nL ((ls.set (i + 1) none).set i (some v)) := by
  refine ⟨h.1, h.2.1, fun j w hw => ?_⟩
  by_cases e : i = j
  · subst e
    rw [List.getElem?_set_self'] at hw
    cases hz : (ls.set (i + 1) none)[i]? with
    | none => rw [hz] at hw; cases hw
    | some z => rw [hz] at hw; simp at hw; subst hw; exact h.2.2 _ List.mem_cons_self
  · rw [List.getElem?_set_ne e] at hw
    by_cases e1 : i + 1 = j
    · subst e1
      rw [List.getElem?_set_self'] at hw
      cases hz : ls[i + 1]? with
      | none => rw [hz] at hw; cases hw
      | some z => rw [hz] at hw; simp at hw
    rw [List.getElem?_set_ne e1] at hw
    refine h.2.2 (j, jv w) (List.mem_cons_of_mem _ (List.mem_filter.mpr ⟨lo_as_mem.mpr ⟨w, hw, rfl⟩, ?_⟩))
    have e3 : ¬ j = i := fun x => e x.symm
    have e4 : ¬ j = i + 1 := fun x => e1 x.symm
    by_cases e2 : j + 1 = i
    · have h1 := hp j w e2 hw
      simp [e3, e4, jv_cat, h1]
    · simp [e2, e3, e4]
theorem jw_istore_n {k : Fin 4} {x : Int32} (hd : M.2.2.2.2 pc = some (.istore_n k, 1)) (hp : lo_c1 ls (k : Nat)) (hn : (k : Nat) < M.2.2.1) (k : jw_J g d M T (pc + 1) (ls.set (k : Nat) (some (.inl x))) st h kc ks Q) : jw_J g d M T pc ls (.inl x :: st) h kc ks Q := by
  intro p e s m args below meth c R Z H locs cells slots arr hA hT hE hP hS hl hc hs
  obtain ⟨hx, hb, hml, hown, hts, hr, hlk, hnm, hwd, hdf, hdl, hst, hok⟩ := id hA
  exact lv_istore_n hx hb (hok _ _ hd) rfl (lo_lv hl) hn rfl (fun arr2 hl2 => k p e s m args below meth c R Z H locs cells slots arr2 hA hT hE hP hS (lo_st1 (v := .inl x) hp hl2) hc hs)
theorem jw_astore_n {k : Fin 4} {r : Option Nat} (hd : M.2.2.2.2 pc = some (.astore_n k, 1)) (hp : lo_c1 ls (k : Nat)) (hn : (k : Nat) < M.2.2.1) (k : jw_J g d M T (pc + 1) (ls.set (k : Nat) (some (.inr (.inr r)))) st h kc ks Q) : jw_J g d M T pc ls ((.inr (.inr r)) :: st) h kc ks Q := by
  intro p e s m args below meth c R Z H locs cells slots arr hA hT hE hP hS hl hc hs
  obtain ⟨hx, hb, hml, hown, hts, hr, hlk, hnm, hwd, hdf, hdl, hst, hok⟩ := id hA
  cases r with
  | none => exact lv_astore_nN hx hb (hok _ _ hd) rfl (lo_lv hl) hn rfl (fun arr2 hl2 => k p e s m args below meth c R Z H locs cells slots arr2 hA hT hE hP hS (lo_st1 (v := .inr (.inr none)) hp hl2) hc hs)
  | some x => exact lv_astore_n hx hb (hok _ _ hd) rfl (lo_lv hl) hn rfl (fun arr2 hl2 => k p e s m args below meth c R Z H locs cells slots arr2 hA hT hE hP hS (lo_st1 (v := .inr (.inr (some x))) hp hl2) hc hs)
theorem jw_lstore_n {k : Fin 4} {x : Int64} (hd : M.2.2.2.2 pc = some (.lstore_n k, 1)) (hp : lo_c1 ls (k : Nat)) (hn : (k : Nat) + 1 < M.2.2.1) (k : jw_J g d M T (pc + 1) ((ls.set ((k : Nat) + 1) none).set (k : Nat) (some (.inr (.inl x)))) st h kc ks Q) : jw_J g d M T pc ls (.inr (.inl x) :: st) h kc ks Q := by
  intro p e s m args below meth c R Z H locs cells slots arr hA hT hE hP hS hl hc hs
  obtain ⟨hx, hb, hml, hown, hts, hr, hlk, hnm, hwd, hdf, hdl, hst, hok⟩ := id hA
  exact lv_lstore_n hx hb (hok _ _ hd) rfl (lo_lv hl) hn rfl (fun arr2 hl2 => k p e s m args below meth c R Z H locs cells slots arr2 hA hT hE hP hS (lo_st2 (v := .inr (.inl x)) hp hl2) hc hs)
theorem jw_istore {i : Nat} {x : Int32} (hd : M.2.2.2.2 pc = some (.istore i, 2)) (hp : lo_c1 ls i) (hn : i < M.2.2.1) (k : jw_J g d M T (pc + 2) (ls.set i (some (.inl x))) st h kc ks Q) : jw_J g d M T pc ls (.inl x :: st) h kc ks Q := by
  intro p e s m args below meth c R Z H locs cells slots arr hA hT hE hP hS hl hc hs
  obtain ⟨hx, hb, hml, hown, hts, hr, hlk, hnm, hwd, hdf, hdl, hst, hok⟩ := id hA
  exact lv_istore hx hb (hok _ _ hd) (lo_lv hl) hn rfl (fun arr2 hl2 => k p e s m args below meth c R Z H locs cells slots arr2 hA hT hE hP hS (lo_st1 (v := .inl x) hp hl2) hc hs)
theorem jw_astore {i : Nat} {r : Option Nat} (hd : M.2.2.2.2 pc = some (.astore i, 2)) (hp : lo_c1 ls i) (hn : i < M.2.2.1) (k : jw_J g d M T (pc + 2) (ls.set i (some (.inr (.inr r)))) st h kc ks Q) : jw_J g d M T pc ls ((.inr (.inr r)) :: st) h kc ks Q := by
  intro p e s m args below meth c R Z H locs cells slots arr hA hT hE hP hS hl hc hs
  obtain ⟨hx, hb, hml, hown, hts, hr, hlk, hnm, hwd, hdf, hdl, hst, hok⟩ := id hA
  cases r with
  | none => exact lv_astoreN hx hb (hok _ _ hd) (lo_lv hl) hn rfl (fun arr2 hl2 => k p e s m args below meth c R Z H locs cells slots arr2 hA hT hE hP hS (lo_st1 (v := .inr (.inr none)) hp hl2) hc hs)
  | some x => exact lv_astore hx hb (hok _ _ hd) (lo_lv hl) hn rfl (fun arr2 hl2 => k p e s m args below meth c R Z H locs cells slots arr2 hA hT hE hP hS (lo_st1 (v := .inr (.inr (some x))) hp hl2) hc hs)
theorem jw_lstore {i : Nat} {x : Int64} (hd : M.2.2.2.2 pc = some (.lstore i, 2)) (hp : lo_c1 ls i) (hn : i + 1 < M.2.2.1) (k : jw_J g d M T (pc + 2) ((ls.set (i + 1) none).set i (some (.inr (.inl x)))) st h kc ks Q) : jw_J g d M T pc ls (.inr (.inl x) :: st) h kc ks Q := by
  intro p e s m args below meth c R Z H locs cells slots arr hA hT hE hP hS hl hc hs
  obtain ⟨hx, hb, hml, hown, hts, hr, hlk, hnm, hwd, hdf, hdl, hst, hok⟩ := id hA
  exact lv_lstore hx hb (hok _ _ hd) (lo_lv hl) hn rfl (fun arr2 hl2 => k p e s m args below meth c R Z H locs cells slots arr2 hA hT hE hP hS (lo_st2 (v := .inr (.inl x)) hp hl2) hc hs)
theorem jw_iinc {i : Nat} {n : Int} {x : Int32} (hd : M.2.2.2.2 pc = some (.iinc i n, 3)) (hv : ls[i]? = some (some (.inl x))) (hp : lo_c1 ls i) (hn : i < M.2.2.1) (k : jw_J g d M T (pc + 3) (ls.set i (some (.inl (x + Int32.ofInt n)))) st h kc ks Q) : jw_J g d M T pc ls st h kc ks Q := by
  intro p e s m args below meth c R Z H locs cells slots arr hA hT hE hP hS hl hc hs
  obtain ⟨hx, hb, hml, hown, hts, hr, hlk, hnm, hwd, hdf, hdl, hst, hok⟩ := id hA
  obtain ⟨j, hj⟩ := List.mem_iff_getElem?.mp (lo_as_mem.mpr ⟨_, hv, rfl⟩)
  exact lv_iinc hx hb (hok _ _ hd) (lo_lv hl) hj rfl hn rfl (fun arr2 hl2 => k p e s m args below meth c R Z H locs cells slots arr2 hA hT hE hP hS (lo_st1 (v := .inl (x + Int32.ofInt n)) hp hl2) hc hs)
theorem jw_iadd {x y : Int32} (hd : M.2.2.2.2 pc = some (.iadd, 1)) (k : jw_J g d M T (pc + 1) ls (.inl (x + y) :: st) h kc ks Q) : jw_J g d M T pc ls (.inl y :: .inl x :: st) h kc ks Q := by
  intro p e s m args below meth c R Z H locs cells slots arr hA hT hE hP hS hl hc hs
  obtain ⟨hx, hb, hml, hown, hts, hr, hlk, hnm, hwd, hdf, hdl, hst, hok⟩ := id hA
  exact lv_iadd hx hb (hok _ _ hd) (k p e s m args below meth c R Z H locs cells slots arr hA hT hE hP hS hl hc hs)
theorem jw_isub {x y : Int32} (hd : M.2.2.2.2 pc = some (.isub, 1)) (k : jw_J g d M T (pc + 1) ls (.inl (x - y) :: st) h kc ks Q) : jw_J g d M T pc ls (.inl y :: .inl x :: st) h kc ks Q := by
  intro p e s m args below meth c R Z H locs cells slots arr hA hT hE hP hS hl hc hs
  obtain ⟨hx, hb, hml, hown, hts, hr, hlk, hnm, hwd, hdf, hdl, hst, hok⟩ := id hA
  exact lv_isub hx hb (hok _ _ hd) (k p e s m args below meth c R Z H locs cells slots arr hA hT hE hP hS hl hc hs)
theorem jw_imul {x y : Int32} (hd : M.2.2.2.2 pc = some (.imul, 1)) (k : jw_J g d M T (pc + 1) ls (.inl (x * y) :: st) h kc ks Q) : jw_J g d M T pc ls (.inl y :: .inl x :: st) h kc ks Q := by
  intro p e s m args below meth c R Z H locs cells slots arr hA hT hE hP hS hl hc hs
  obtain ⟨hx, hb, hml, hown, hts, hr, hlk, hnm, hwd, hdf, hdl, hst, hok⟩ := id hA
  exact lv_imul hx hb (hok _ _ hd) (k p e s m args below meth c R Z H locs cells slots arr hA hT hE hP hS hl hc hs)
theorem jw_iand {x y : Int32} (hd : M.2.2.2.2 pc = some (.iand, 1)) (k : jw_J g d M T (pc + 1) ls (.inl (x &&& y) :: st) h kc ks Q) : jw_J g d M T pc ls (.inl y :: .inl x :: st) h kc ks Q := by
  intro p e s m args below meth c R Z H locs cells slots arr hA hT hE hP hS hl hc hs
  obtain ⟨hx, hb, hml, hown, hts, hr, hlk, hnm, hwd, hdf, hdl, hst, hok⟩ := id hA
  exact lv_iand hx hb (hok _ _ hd) (k p e s m args below meth c R Z H locs cells slots arr hA hT hE hP hS hl hc hs)
theorem jw_ior {x y : Int32} (hd : M.2.2.2.2 pc = some (.ior, 1)) (k : jw_J g d M T (pc + 1) ls (.inl (x ||| y) :: st) h kc ks Q) : jw_J g d M T pc ls (.inl y :: .inl x :: st) h kc ks Q := by
  intro p e s m args below meth c R Z H locs cells slots arr hA hT hE hP hS hl hc hs
  obtain ⟨hx, hb, hml, hown, hts, hr, hlk, hnm, hwd, hdf, hdl, hst, hok⟩ := id hA
  exact lv_ior hx hb (hok _ _ hd) (k p e s m args below meth c R Z H locs cells slots arr hA hT hE hP hS hl hc hs)
theorem jw_ixor {x y : Int32} (hd : M.2.2.2.2 pc = some (.ixor, 1)) (k : jw_J g d M T (pc + 1) ls (.inl (x ^^^ y) :: st) h kc ks Q) : jw_J g d M T pc ls (.inl y :: .inl x :: st) h kc ks Q := by
  intro p e s m args below meth c R Z H locs cells slots arr hA hT hE hP hS hl hc hs
  obtain ⟨hx, hb, hml, hown, hts, hr, hlk, hnm, hwd, hdf, hdl, hst, hok⟩ := id hA
  exact lv_ixor hx hb (hok _ _ hd) (k p e s m args below meth c R Z H locs cells slots arr hA hT hE hP hS hl hc hs)
theorem jw_idiv {x y : Int32} (hd : M.2.2.2.2 pc = some (.idiv, 1)) (hne : ¬ y = 0) (k : jw_J g d M T (pc + 1) ls (.inl (x / y) :: st) h kc ks Q) : jw_J g d M T pc ls (.inl y :: .inl x :: st) h kc ks Q := by
  intro p e s m args below meth c R Z H locs cells slots arr hA hT hE hP hS hl hc hs
  obtain ⟨hx, hb, hml, hown, hts, hr, hlk, hnm, hwd, hdf, hdl, hst, hok⟩ := id hA
  exact lv_idiv hx hb (hok _ _ hd) hne (k p e s m args below meth c R Z H locs cells slots arr hA hT hE hP hS hl hc hs)
theorem jw_irem {x y : Int32} (hd : M.2.2.2.2 pc = some (.irem, 1)) (hne : ¬ y = 0) (k : jw_J g d M T (pc + 1) ls (.inl (x - x / y * y) :: st) h kc ks Q) : jw_J g d M T pc ls (.inl y :: .inl x :: st) h kc ks Q := by
  intro p e s m args below meth c R Z H locs cells slots arr hA hT hE hP hS hl hc hs
  obtain ⟨hx, hb, hml, hown, hts, hr, hlk, hnm, hwd, hdf, hdl, hst, hok⟩ := id hA
  exact lv_irem hx hb (hok _ _ hd) hne (k p e s m args below meth c R Z H locs cells slots arr hA hT hE hP hS hl hc hs)
theorem jw_ineg {x : Int32} (hd : M.2.2.2.2 pc = some (.ineg, 1)) (k : jw_J g d M T (pc + 1) ls (.inl (-x) :: st) h kc ks Q) : jw_J g d M T pc ls (.inl x :: st) h kc ks Q := by
  intro p e s m args below meth c R Z H locs cells slots arr hA hT hE hP hS hl hc hs
  obtain ⟨hx, hb, hml, hown, hts, hr, hlk, hnm, hwd, hdf, hdl, hst, hok⟩ := id hA
  exact lv_ineg hx hb (hok _ _ hd) (k p e s m args below meth c R Z H locs cells slots arr hA hT hE hP hS hl hc hs)
theorem jw_ladd {x y : Int64} (hd : M.2.2.2.2 pc = some (.ladd, 1)) (k : jw_J g d M T (pc + 1) ls (.inr (.inl (x + y)) :: st) h kc ks Q) : jw_J g d M T pc ls (.inr (.inl y) :: .inr (.inl x) :: st) h kc ks Q := by
  intro p e s m args below meth c R Z H locs cells slots arr hA hT hE hP hS hl hc hs
  obtain ⟨hx, hb, hml, hown, hts, hr, hlk, hnm, hwd, hdf, hdl, hst, hok⟩ := id hA
  exact lv_ladd hx hb (hok _ _ hd) (k p e s m args below meth c R Z H locs cells slots arr hA hT hE hP hS hl hc hs)
theorem jw_lsub {x y : Int64} (hd : M.2.2.2.2 pc = some (.lsub, 1)) (k : jw_J g d M T (pc + 1) ls (.inr (.inl (x - y)) :: st) h kc ks Q) : jw_J g d M T pc ls (.inr (.inl y) :: .inr (.inl x) :: st) h kc ks Q := by
  intro p e s m args below meth c R Z H locs cells slots arr hA hT hE hP hS hl hc hs
  obtain ⟨hx, hb, hml, hown, hts, hr, hlk, hnm, hwd, hdf, hdl, hst, hok⟩ := id hA
  exact lv_lsub hx hb (hok _ _ hd) (k p e s m args below meth c R Z H locs cells slots arr hA hT hE hP hS hl hc hs)
theorem jw_lmul {x y : Int64} (hd : M.2.2.2.2 pc = some (.lmul, 1)) (k : jw_J g d M T (pc + 1) ls (.inr (.inl (x * y)) :: st) h kc ks Q) : jw_J g d M T pc ls (.inr (.inl y) :: .inr (.inl x) :: st) h kc ks Q := by
  intro p e s m args below meth c R Z H locs cells slots arr hA hT hE hP hS hl hc hs
  obtain ⟨hx, hb, hml, hown, hts, hr, hlk, hnm, hwd, hdf, hdl, hst, hok⟩ := id hA
  exact lv_lmul hx hb (hok _ _ hd) (k p e s m args below meth c R Z H locs cells slots arr hA hT hE hP hS hl hc hs)
theorem jw_i2c {x : Int32} (hd : M.2.2.2.2 pc = some (.i2c, 1)) (k : jw_J g d M T (pc + 1) ls (.inl (x.toUInt32 % 65536).toInt32 :: st) h kc ks Q) : jw_J g d M T pc ls (.inl x :: st) h kc ks Q := by
  intro p e s m args below meth c R Z H locs cells slots arr hA hT hE hP hS hl hc hs
  obtain ⟨hx, hb, hml, hown, hts, hr, hlk, hnm, hwd, hdf, hdl, hst, hok⟩ := id hA
  exact lv_i2c hx hb (hok _ _ hd) rfl (k p e s m args below meth c R Z H locs cells slots arr hA hT hE hP hS hl hc hs)
theorem jw_i2l {x : Int32} (hd : M.2.2.2.2 pc = some (.i2l, 1)) (k : jw_J g d M T (pc + 1) ls (.inr (.inl x.toInt64) :: st) h kc ks Q) : jw_J g d M T pc ls (.inl x :: st) h kc ks Q := by
  intro p e s m args below meth c R Z H locs cells slots arr hA hT hE hP hS hl hc hs
  obtain ⟨hx, hb, hml, hown, hts, hr, hlk, hnm, hwd, hdf, hdl, hst, hok⟩ := id hA
  exact lv_i2l hx hb (hok _ _ hd) rfl (k p e s m args below meth c R Z H locs cells slots arr hA hT hE hP hS hl hc hs)
theorem jw_l2i {x : Int64} (hd : M.2.2.2.2 pc = some (.l2i, 1)) (k : jw_J g d M T (pc + 1) ls (.inl x.toInt32 :: st) h kc ks Q) : jw_J g d M T pc ls (.inr (.inl x) :: st) h kc ks Q := by
  intro p e s m args below meth c R Z H locs cells slots arr hA hT hE hP hS hl hc hs
  obtain ⟨hx, hb, hml, hown, hts, hr, hlk, hnm, hwd, hdf, hdl, hst, hok⟩ := id hA
  exact lv_l2i hx hb (hok _ _ hd) rfl (k p e s m args below meth c R Z H locs cells slots arr hA hT hE hP hS hl hc hs)
theorem jw_lcmp {x y : Int64} (hd : M.2.2.2.2 pc = some (.lcmp, 1)) (k : jw_J g d M T (pc + 1) ls (.inl (lg_cmp x y) :: st) h kc ks Q) : jw_J g d M T pc ls (.inr (.inl y) :: .inr (.inl x) :: st) h kc ks Q := by
  intro p e s m args below meth c R Z H locs cells slots arr hA hT hE hP hS hl hc hs
  obtain ⟨hx, hb, hml, hown, hts, hr, hlk, hnm, hwd, hdf, hdl, hst, hok⟩ := id hA
  exact W.lcmp hx hb (hok _ _ hd) (k p e s m args below meth c R Z H locs cells slots arr hA hT hE hP hS hl hc hs)
theorem jw_dup {v : jV} (hd : M.2.2.2.2 pc = some (.dup, 1)) (hv : jv_c v = 1) (k : jw_J g d M T (pc + 1) ls (v :: v :: st) h kc ks Q) : jw_J g d M T pc ls (v :: st) h kc ks Q := by
  intro p e s m args below meth c R Z H locs cells slots arr hA hT hE hP hS hl hc hs
  obtain ⟨hx, hb, hml, hown, hts, hr, hlk, hnm, hwd, hdf, hdl, hst, hok⟩ := id hA
  exact lv_dup hx hb (hok _ _ hd) ((jv_cat v).trans hv) (k p e s m args below meth c R Z H locs cells slots arr hA hT hE hP hS hl hc hs)
theorem jw_pop {v : jV} (hd : M.2.2.2.2 pc = some (.pop, 1)) (hv : jv_c v = 1) (k : jw_J g d M T (pc + 1) ls st h kc ks Q) : jw_J g d M T pc ls (v :: st) h kc ks Q := by
  intro p e s m args below meth c R Z H locs cells slots arr hA hT hE hP hS hl hc hs
  obtain ⟨hx, hb, hml, hown, hts, hr, hlk, hnm, hwd, hdf, hdl, hst, hok⟩ := id hA
  exact lv_pop hx hb (hok _ _ hd) ((jv_cat v).trans hv) (k p e s m args below meth c R Z H locs cells slots arr hA hT hE hP hS hl hc hs)
theorem jw_dup_x1 {v w : jV} (hd : M.2.2.2.2 pc = some (.dup_x1, 1)) (hv : jv_c v = 1) (hw : jv_c w = 1) (k : jw_J g d M T (pc + 1) ls (v :: w :: v :: st) h kc ks Q) : jw_J g d M T pc ls (v :: w :: st) h kc ks Q := by
  intro p e s m args below meth c R Z H locs cells slots arr hA hT hE hP hS hl hc hs
  obtain ⟨hx, hb, hml, hown, hts, hr, hlk, hnm, hwd, hdf, hdl, hst, hok⟩ := id hA
  exact lv_dup_x1 hx hb (hok _ _ hd) ((jv_cat v).trans hv) ((jv_cat w).trans hw) (k p e s m args below meth c R Z H locs cells slots arr hA hT hE hP hS hl hc hs)
theorem jw_dup2 {v w : jV} (hd : M.2.2.2.2 pc = some (.dup2, 1)) (hv : jv_c v = 1) (hw : jv_c w = 1) (k : jw_J g d M T (pc + 1) ls (v :: w :: v :: w :: st) h kc ks Q) : jw_J g d M T pc ls (v :: w :: st) h kc ks Q := by
  intro p e s m args below meth c R Z H locs cells slots arr hA hT hE hP hS hl hc hs
  obtain ⟨hx, hb, hml, hown, hts, hr, hlk, hnm, hwd, hdf, hdl, hst, hok⟩ := id hA
  exact lv_dup2_11 hx hb (hok _ _ hd) ((jv_cat v).trans hv) ((jv_cat w).trans hw) (k p e s m args below meth c R Z H locs cells slots arr hA hT hE hP hS hl hc hs)
theorem jw_if_eq {x : Int32} {off : Int} (tgt : Nat) (hd : M.2.2.2.2 pc = some (.ifCond .eq off, 3)) (ht : (pc : Int) + off = (tgt : Int)) (kt : x = 0 → jw_J g d M T tgt ls st h kc ks Q) (kf : ¬ (x = 0) → jw_J g d M T (pc + 3) ls st h kc ks Q) : jw_J g d M T pc ls (.inl x :: st) h kc ks Q := by
  intro p e s m args below meth c R Z H locs cells slots arr hA hT hE hP hS hl hc hs
  obtain ⟨hx, hb, hml, hown, hts, hr, hlk, hnm, hwd, hdf, hdl, hst, hok⟩ := id hA
  exact lv_if_eq hx hb (hok _ _ hd) ht (fun w => kt w p e s m args below meth c R Z H locs cells slots arr hA hT hE hP hS hl hc hs) (fun w => kf w p e s m args below meth c R Z H locs cells slots arr hA hT hE hP hS hl hc hs)
theorem jw_if_ne {x : Int32} {off : Int} (tgt : Nat) (hd : M.2.2.2.2 pc = some (.ifCond .ne off, 3)) (ht : (pc : Int) + off = (tgt : Int)) (kt : ¬ x = 0 → jw_J g d M T tgt ls st h kc ks Q) (kf : x = 0 → jw_J g d M T (pc + 3) ls st h kc ks Q) : jw_J g d M T pc ls (.inl x :: st) h kc ks Q := by
  intro p e s m args below meth c R Z H locs cells slots arr hA hT hE hP hS hl hc hs
  obtain ⟨hx, hb, hml, hown, hts, hr, hlk, hnm, hwd, hdf, hdl, hst, hok⟩ := id hA
  exact lv_if_ne hx hb (hok _ _ hd) ht (fun w => kt w p e s m args below meth c R Z H locs cells slots arr hA hT hE hP hS hl hc hs) (fun w => kf w p e s m args below meth c R Z H locs cells slots arr hA hT hE hP hS hl hc hs)
theorem jw_if_lt {x : Int32} {off : Int} (tgt : Nat) (hd : M.2.2.2.2 pc = some (.ifCond .lt off, 3)) (ht : (pc : Int) + off = (tgt : Int)) (kt : x < 0 → jw_J g d M T tgt ls st h kc ks Q) (kf : ¬ (x < 0) → jw_J g d M T (pc + 3) ls st h kc ks Q) : jw_J g d M T pc ls (.inl x :: st) h kc ks Q := by
  intro p e s m args below meth c R Z H locs cells slots arr hA hT hE hP hS hl hc hs
  obtain ⟨hx, hb, hml, hown, hts, hr, hlk, hnm, hwd, hdf, hdl, hst, hok⟩ := id hA
  exact lv_if_lt hx hb (hok _ _ hd) ht (fun w => kt w p e s m args below meth c R Z H locs cells slots arr hA hT hE hP hS hl hc hs) (fun w => kf w p e s m args below meth c R Z H locs cells slots arr hA hT hE hP hS hl hc hs)
theorem jw_if_ge {x : Int32} {off : Int} (tgt : Nat) (hd : M.2.2.2.2 pc = some (.ifCond .ge off, 3)) (ht : (pc : Int) + off = (tgt : Int)) (kt : 0 ≤ x → jw_J g d M T tgt ls st h kc ks Q) (kf : ¬ (0 ≤ x) → jw_J g d M T (pc + 3) ls st h kc ks Q) : jw_J g d M T pc ls (.inl x :: st) h kc ks Q := by
  intro p e s m args below meth c R Z H locs cells slots arr hA hT hE hP hS hl hc hs
  obtain ⟨hx, hb, hml, hown, hts, hr, hlk, hnm, hwd, hdf, hdl, hst, hok⟩ := id hA
  exact lv_if_ge hx hb (hok _ _ hd) ht (fun w => kt w p e s m args below meth c R Z H locs cells slots arr hA hT hE hP hS hl hc hs) (fun w => kf w p e s m args below meth c R Z H locs cells slots arr hA hT hE hP hS hl hc hs)
theorem jw_if_gt {x : Int32} {off : Int} (tgt : Nat) (hd : M.2.2.2.2 pc = some (.ifCond .gt off, 3)) (ht : (pc : Int) + off = (tgt : Int)) (kt : 0 < x → jw_J g d M T tgt ls st h kc ks Q) (kf : ¬ (0 < x) → jw_J g d M T (pc + 3) ls st h kc ks Q) : jw_J g d M T pc ls (.inl x :: st) h kc ks Q := by
  intro p e s m args below meth c R Z H locs cells slots arr hA hT hE hP hS hl hc hs
  obtain ⟨hx, hb, hml, hown, hts, hr, hlk, hnm, hwd, hdf, hdl, hst, hok⟩ := id hA
  exact lv_if_gt hx hb (hok _ _ hd) ht (fun w => kt w p e s m args below meth c R Z H locs cells slots arr hA hT hE hP hS hl hc hs) (fun w => kf w p e s m args below meth c R Z H locs cells slots arr hA hT hE hP hS hl hc hs)
theorem jw_if_le {x : Int32} {off : Int} (tgt : Nat) (hd : M.2.2.2.2 pc = some (.ifCond .le off, 3)) (ht : (pc : Int) + off = (tgt : Int)) (kt : x ≤ 0 → jw_J g d M T tgt ls st h kc ks Q) (kf : ¬ (x ≤ 0) → jw_J g d M T (pc + 3) ls st h kc ks Q) : jw_J g d M T pc ls (.inl x :: st) h kc ks Q := by
  intro p e s m args below meth c R Z H locs cells slots arr hA hT hE hP hS hl hc hs
  obtain ⟨hx, hb, hml, hown, hts, hr, hlk, hnm, hwd, hdf, hdl, hst, hok⟩ := id hA
  exact lv_if_le hx hb (hok _ _ hd) ht (fun w => kt w p e s m args below meth c R Z H locs cells slots arr hA hT hE hP hS hl hc hs) (fun w => kf w p e s m args below meth c R Z H locs cells slots arr hA hT hE hP hS hl hc hs)
theorem jw_icmp_eq {x y : Int32} {off : Int} (tgt : Nat) (hd : M.2.2.2.2 pc = some (.if_icmp .eq off, 3)) (ht : (pc : Int) + off = (tgt : Int)) (kt : x = y → jw_J g d M T tgt ls st h kc ks Q) (kf : ¬ (x = y) → jw_J g d M T (pc + 3) ls st h kc ks Q) : jw_J g d M T pc ls (.inl y :: .inl x :: st) h kc ks Q := by
  intro p e s m args below meth c R Z H locs cells slots arr hA hT hE hP hS hl hc hs
  obtain ⟨hx, hb, hml, hown, hts, hr, hlk, hnm, hwd, hdf, hdl, hst, hok⟩ := id hA
  exact lv_icmp_eq hx hb (hok _ _ hd) ht (fun w => kt w p e s m args below meth c R Z H locs cells slots arr hA hT hE hP hS hl hc hs) (fun w => kf w p e s m args below meth c R Z H locs cells slots arr hA hT hE hP hS hl hc hs)
theorem jw_icmp_ne {x y : Int32} {off : Int} (tgt : Nat) (hd : M.2.2.2.2 pc = some (.if_icmp .ne off, 3)) (ht : (pc : Int) + off = (tgt : Int)) (kt : ¬ x = y → jw_J g d M T tgt ls st h kc ks Q) (kf : x = y → jw_J g d M T (pc + 3) ls st h kc ks Q) : jw_J g d M T pc ls (.inl y :: .inl x :: st) h kc ks Q := by
  intro p e s m args below meth c R Z H locs cells slots arr hA hT hE hP hS hl hc hs
  obtain ⟨hx, hb, hml, hown, hts, hr, hlk, hnm, hwd, hdf, hdl, hst, hok⟩ := id hA
  exact lv_icmp_ne hx hb (hok _ _ hd) ht (fun w => kt w p e s m args below meth c R Z H locs cells slots arr hA hT hE hP hS hl hc hs) (fun w => kf w p e s m args below meth c R Z H locs cells slots arr hA hT hE hP hS hl hc hs)
theorem jw_icmp_lt {x y : Int32} {off : Int} (tgt : Nat) (hd : M.2.2.2.2 pc = some (.if_icmp .lt off, 3)) (ht : (pc : Int) + off = (tgt : Int)) (kt : x < y → jw_J g d M T tgt ls st h kc ks Q) (kf : ¬ (x < y) → jw_J g d M T (pc + 3) ls st h kc ks Q) : jw_J g d M T pc ls (.inl y :: .inl x :: st) h kc ks Q := by
  intro p e s m args below meth c R Z H locs cells slots arr hA hT hE hP hS hl hc hs
  obtain ⟨hx, hb, hml, hown, hts, hr, hlk, hnm, hwd, hdf, hdl, hst, hok⟩ := id hA
  exact lv_icmp_lt hx hb (hok _ _ hd) ht (fun w => kt w p e s m args below meth c R Z H locs cells slots arr hA hT hE hP hS hl hc hs) (fun w => kf w p e s m args below meth c R Z H locs cells slots arr hA hT hE hP hS hl hc hs)
theorem jw_icmp_ge {x y : Int32} {off : Int} (tgt : Nat) (hd : M.2.2.2.2 pc = some (.if_icmp .ge off, 3)) (ht : (pc : Int) + off = (tgt : Int)) (kt : y ≤ x → jw_J g d M T tgt ls st h kc ks Q) (kf : ¬ (y ≤ x) → jw_J g d M T (pc + 3) ls st h kc ks Q) : jw_J g d M T pc ls (.inl y :: .inl x :: st) h kc ks Q := by
  intro p e s m args below meth c R Z H locs cells slots arr hA hT hE hP hS hl hc hs
  obtain ⟨hx, hb, hml, hown, hts, hr, hlk, hnm, hwd, hdf, hdl, hst, hok⟩ := id hA
  exact lv_icmp_ge hx hb (hok _ _ hd) ht (fun w => kt w p e s m args below meth c R Z H locs cells slots arr hA hT hE hP hS hl hc hs) (fun w => kf w p e s m args below meth c R Z H locs cells slots arr hA hT hE hP hS hl hc hs)
theorem jw_icmp_gt {x y : Int32} {off : Int} (tgt : Nat) (hd : M.2.2.2.2 pc = some (.if_icmp .gt off, 3)) (ht : (pc : Int) + off = (tgt : Int)) (kt : y < x → jw_J g d M T tgt ls st h kc ks Q) (kf : ¬ (y < x) → jw_J g d M T (pc + 3) ls st h kc ks Q) : jw_J g d M T pc ls (.inl y :: .inl x :: st) h kc ks Q := by
  intro p e s m args below meth c R Z H locs cells slots arr hA hT hE hP hS hl hc hs
  obtain ⟨hx, hb, hml, hown, hts, hr, hlk, hnm, hwd, hdf, hdl, hst, hok⟩ := id hA
  exact lv_icmp_gt hx hb (hok _ _ hd) ht (fun w => kt w p e s m args below meth c R Z H locs cells slots arr hA hT hE hP hS hl hc hs) (fun w => kf w p e s m args below meth c R Z H locs cells slots arr hA hT hE hP hS hl hc hs)
theorem jw_icmp_le {x y : Int32} {off : Int} (tgt : Nat) (hd : M.2.2.2.2 pc = some (.if_icmp .le off, 3)) (ht : (pc : Int) + off = (tgt : Int)) (kt : x ≤ y → jw_J g d M T tgt ls st h kc ks Q) (kf : ¬ (x ≤ y) → jw_J g d M T (pc + 3) ls st h kc ks Q) : jw_J g d M T pc ls (.inl y :: .inl x :: st) h kc ks Q := by
  intro p e s m args below meth c R Z H locs cells slots arr hA hT hE hP hS hl hc hs
  obtain ⟨hx, hb, hml, hown, hts, hr, hlk, hnm, hwd, hdf, hdl, hst, hok⟩ := id hA
  exact lv_icmp_le hx hb (hok _ _ hd) ht (fun w => kt w p e s m args below meth c R Z H locs cells slots arr hA hT hE hP hS hl hc hs) (fun w => kf w p e s m args below meth c R Z H locs cells slots arr hA hT hE hP hS hl hc hs)
theorem jw_acmp_eq {r q : Option Nat} {off : Int} (tgt : Nat) (hd : M.2.2.2.2 pc = some (.if_acmp .eq off, 3)) (ht : (pc : Int) + off = (tgt : Int)) (kt : r = q → jw_J g d M T tgt ls st h kc ks Q) (kf : ¬ (r = q) → jw_J g d M T (pc + 3) ls st h kc ks Q) : jw_J g d M T pc ls (.inr (.inr q) :: .inr (.inr r) :: st) h kc ks Q := by
  intro p e s m args below meth c R Z H locs cells slots arr hA hT hE hP hS hl hc hs
  obtain ⟨hx, hb, hml, hown, hts, hr, hlk, hnm, hwd, hdf, hdl, hst, hok⟩ := id hA
  exact lv_acmp_eq hx hb (hok _ _ hd) ht (fun w => kt w p e s m args below meth c R Z H locs cells slots arr hA hT hE hP hS hl hc hs) (fun w => kf w p e s m args below meth c R Z H locs cells slots arr hA hT hE hP hS hl hc hs)
theorem jw_acmp_ne {r q : Option Nat} {off : Int} (tgt : Nat) (hd : M.2.2.2.2 pc = some (.if_acmp .ne off, 3)) (ht : (pc : Int) + off = (tgt : Int)) (kt : ¬ r = q → jw_J g d M T tgt ls st h kc ks Q) (kf : r = q → jw_J g d M T (pc + 3) ls st h kc ks Q) : jw_J g d M T pc ls (.inr (.inr q) :: .inr (.inr r) :: st) h kc ks Q := by
  intro p e s m args below meth c R Z H locs cells slots arr hA hT hE hP hS hl hc hs
  obtain ⟨hx, hb, hml, hown, hts, hr, hlk, hnm, hwd, hdf, hdl, hst, hok⟩ := id hA
  exact lv_acmp_ne hx hb (hok _ _ hd) ht (fun w => kt w p e s m args below meth c R Z H locs cells slots arr hA hT hE hP hS hl hc hs) (fun w => kf w p e s m args below meth c R Z H locs cells slots arr hA hT hE hP hS hl hc hs)
theorem jw_goto {off : Int} (tgt : Nat) (hd : M.2.2.2.2 pc = some (.goto off, 3)) (ht : (pc : Int) + off = (tgt : Int)) (k : jw_J g d M T tgt ls st h kc ks Q) : jw_J g d M T pc ls st h kc ks Q := by
  intro p e s m args below meth c R Z H locs cells slots arr hA hT hE hP hS hl hc hs
  obtain ⟨hx, hb, hml, hown, hts, hr, hlk, hnm, hwd, hdf, hdl, hst, hok⟩ := id hA
  exact lv_goto hx hb (hok _ _ hd) ht (k p e s m args below meth c R Z H locs cells slots arr hA hT hE hP hS hl hc hs)
theorem jw_ifnull {r : Option Nat} {off : Int} (tgt : Nat) (hd : M.2.2.2.2 pc = some (.ifnull off, 3)) (ht : (pc : Int) + off = (tgt : Int)) (kn : r = none → jw_J g d M T tgt ls st h kc ks Q) (kz : ∀ x, r = some x → jw_J g d M T (pc + 3) ls st h kc ks Q) : jw_J g d M T pc ls ((.inr (.inr r)) :: st) h kc ks Q := by
  intro p e s m args below meth c R Z H locs cells slots arr hA hT hE hP hS hl hc hs
  obtain ⟨hx, hb, hml, hown, hts, hr, hlk, hnm, hwd, hdf, hdl, hst, hok⟩ := id hA
  cases r with
  | none => exact lv_ifnullN hx hb (hok _ _ hd) ht (kn rfl p e s m args below meth c R Z H locs cells slots arr hA hT hE hP hS hl hc hs)
  | some x => exact lv_ifnull hx hb (hok _ _ hd) (kz x rfl p e s m args below meth c R Z H locs cells slots arr hA hT hE hP hS hl hc hs)
theorem jw_ifnonnull {r : Option Nat} {off : Int} (tgt : Nat) (hd : M.2.2.2.2 pc = some (.ifnonnull off, 3)) (ht : (pc : Int) + off = (tgt : Int)) (kn : r = none → jw_J g d M T (pc + 3) ls st h kc ks Q) (kz : ∀ x, r = some x → jw_J g d M T tgt ls st h kc ks Q) : jw_J g d M T pc ls ((.inr (.inr r)) :: st) h kc ks Q := by
  intro p e s m args below meth c R Z H locs cells slots arr hA hT hE hP hS hl hc hs
  obtain ⟨hx, hb, hml, hown, hts, hr, hlk, hnm, hwd, hdf, hdl, hst, hok⟩ := id hA
  cases r with
  | none => exact lv_ifnonnullN hx hb (hok _ _ hd) (kn rfl p e s m args below meth c R Z H locs cells slots arr hA hT hE hP hS hl hc hs)
  | some x => exact lv_ifnonnull hx hb (hok _ _ hd) ht (kz x rfl p e s m args below meth c R Z H locs cells slots arr hA hT hE hP hS hl hc hs)
theorem jw_tableIn {dflt lo hi : Int} {offs : Array Int} {len : Nat} {x : Int32} {off : Int} (tgt : Nat) (hd : M.2.2.2.2 pc = some (.tableswitch dflt lo hi offs, len)) (h1 : ¬ x.toInt < lo) (h2 : ¬ hi < x.toInt) (ho : offs[(x.toInt - lo).toNat]? = some off) (ht : (pc : Int) + off = (tgt : Int)) (k : jw_J g d M T tgt ls st h kc ks Q) : jw_J g d M T pc ls (.inl x :: st) h kc ks Q := by
  intro p e s m args below meth c R Z H locs cells slots arr hA hT hE hP hS hl hc hs
  obtain ⟨hx, hb, hml, hown, hts, hr, hlk, hnm, hwd, hdf, hdl, hst, hok⟩ := id hA
  exact lv_tableIn hx hb (hok _ _ hd) h1 h2 ho ht (k p e s m args below meth c R Z H locs cells slots arr hA hT hE hP hS hl hc hs)
theorem jw_tableOut {dflt lo hi : Int} {offs : Array Int} {len : Nat} {x : Int32} (tgt : Nat) (hd : M.2.2.2.2 pc = some (.tableswitch dflt lo hi offs, len)) (h1 : x.toInt < lo ∨ hi < x.toInt) (ht : (pc : Int) + dflt = (tgt : Int)) (k : jw_J g d M T tgt ls st h kc ks Q) : jw_J g d M T pc ls (.inl x :: st) h kc ks Q := by
  intro p e s m args below meth c R Z H locs cells slots arr hA hT hE hP hS hl hc hs
  obtain ⟨hx, hb, hml, hown, hts, hr, hlk, hnm, hwd, hdf, hdl, hst, hok⟩ := id hA
  exact lv_tableOut hx hb (hok _ _ hd) h1 ht (k p e s m args below meth c R Z H locs cells slots arr hA hT hE hP hS hl hc hs)
theorem jw_less {ls' : List (Option jV)} (hw : ∀ (i : Nat) (v : jV), ls'[i]? = some (some v) → ls[i]? = some (some v)) (k : jw_J g d M T pc ls' st h kc ks Q) : jw_J g d M T pc ls st h kc ks Q := by
  intro p e s m args below meth c R Z H locs cells slots arr hA hT hE hP hS hl hc hs
  exact k p e s m args below meth c R Z H locs cells slots arr hA hT hE hP hS ⟨hl.1, hl.2.1, fun i v q => hl.2.2 i v (hw i v q)⟩ hc hs
theorem jw_room {kc' ks' : Nat} (h1 : kc' ≤ kc) (h2 : ks' ≤ ks) (k : jw_J g d M T pc ls st h kc' ks' Q) : jw_J g d M T pc ls st h kc ks Q := by
  intro p e s m args below meth c R Z H locs cells slots arr hA hT hE hP hS hl hc hs
  exact k p e s m args below meth c R Z H locs cells slots arr hA hT hE hP hS hl (by omega) (by omega)
theorem jw_post {Q' : jw_O → jh_H → Prop} (hq : ∀ o h', Q' o h' → Q o h') (k : jw_J g d M T pc ls st h kc ks Q') : jw_J g d M T pc ls st h kc ks Q := by
  intro p e s m args below meth c R Z H locs cells slots arr hA hT hE hP hS hl hc hs
  exact k p e s m args below meth c R Z H locs cells slots arr hA hT ⟨fun v h' q => hE.1 v h' (hq _ _ q), fun E h' q => hE.2 E h' (hq _ _ q)⟩ hP hS hl hc hs
theorem jw_ireturn {x : Int32} (hd : M.2.2.2.2 pc = some (.ireturn, 1)) {ty : FieldType} (hr : M.2.2.2.1 = some ty) (hn : narrow ty (.int x) = .int x) (hq : Q (.inl (some (.inl x))) h) : jw_J g d M T pc ls [.inl x] h kc ks Q := by
  intro p e s m args below meth c R Z H locs cells slots arr hA hT hE hP hS hl hc hs
  obtain ⟨hx, hb, hml, hown, hts, -, hlk, hnm, hwd, hdf, hdl, hst, hok⟩ := id hA
  exact hE.1 _ _ hq H locs cells slots pc arr hP hS (by omega) (by omega) (Or.inl ⟨x, rfl, hok _ _ hd, ty, hr, hn⟩)
theorem jw_lreturn {x : Int64} (hd : M.2.2.2.2 pc = some (.lreturn, 1)) (hr : M.2.2.2.1 = some .long) (hq : Q (.inl (some (.inr (.inl x)))) h) : jw_J g d M T pc ls [.inr (.inl x)] h kc ks Q := by
  intro p e s m args below meth c R Z H locs cells slots arr hA hT hE hP hS hl hc hs
  obtain ⟨hx, hb, hml, hown, hts, -, hlk, hnm, hwd, hdf, hdl, hst, hok⟩ := id hA
  exact hE.1 _ _ hq H locs cells slots pc arr hP hS (by omega) (by omega) (Or.inr (Or.inl ⟨x, rfl, hok _ _ hd, hr⟩))
theorem jw_areturn {r : Option Nat} (hd : M.2.2.2.2 pc = some (.areturn, 1)) {ty : FieldType} (hr : M.2.2.2.1 = some ty) (hty : (∃ n, ty = .object n) ∨ ∃ t, ty = .array t) (hq : Q (.inl (some (.inr (.inr r)))) h) : jw_J g d M T pc ls [.inr (.inr r)] h kc ks Q := by
  intro p e s m args below meth c R Z H locs cells slots arr hA hT hE hP hS hl hc hs
  obtain ⟨hx, hb, hml, hown, hts, -, hlk, hnm, hwd, hdf, hdl, hst, hok⟩ := id hA
  exact hE.1 _ _ hq H locs cells slots pc arr hP hS (by omega) (by omega) (Or.inr (Or.inr (Or.inl ⟨r, rfl, hok _ _ hd, ty, hr, hty⟩)))
theorem jw_return (hd : M.2.2.2.2 pc = some (.return_, 1)) (hr : M.2.2.2.1 = none) (hq : Q (.inl none) h) : jw_J g d M T pc ls [] h kc ks Q := by
  intro p e s m args below meth c R Z H locs cells slots arr hA hT hE hP hS hl hc hs
  obtain ⟨hx, hb, hml, hown, hts, -, hlk, hnm, hwd, hdf, hdl, hst, hok⟩ := id hA
  exact hE.1 _ _ hq H locs cells slots pc arr hP hS (by omega) (by omega) (Or.inr (Or.inr (Or.inr ⟨rfl, hok _ _ hd, hr⟩)))
end JWR
end
section
section JWH
variable {g : jg_G} {d : Nat} {M : jw_M} {T : Code → Prop} {pc : Nat} {ls : List (Option jV)} {st : List jV} {h : jh_H} {kc ks : Nat} {Q : jw_O → jh_H → Prop}
/-- what the tables say of class ci -/
def jc_ok (ci : Nat) : Prop := jc_cl[ci]? = some (jc_q ci) ∧ ci < 100 ∧ (∀ w ∈ u_ws (jc_q ci).1 (jc_q ci).2.1 (jc_q ci).2.2, w ∈ jw_big) ∧ (∀ k, k < (jc_q ci).2.2 → parseFieldDescriptor ((jc_q ci).2.1 k).2.2.1 = some (jc_ty ci k)) ∧ (∀ a, a < (jc_q ci).2.2 → ∀ b, b < (jc_q ci).2.2 → a ≠ b → ((jc_q ci).2.1 a).2.1 ≠ ((jc_q ci).2.1 b).2.1)
/-- the pool's entry idx of class own is field k of class ci -/
def jl_f (own : String) (idx ci k : Nat) : Prop := jc_ok ci ∧ k < (jc_q ci).2.2 ∧ (Cond.fieldLink own idx ((jc_q ci).2.1 k).1 ((jc_q ci).2.1 k).2.1 ((jc_q ci).2.1 k).2.2.1 ∈ jw_big ∨ ∃ host, Cond.fieldLinkNest own idx ((jc_q ci).2.1 k).1 ((jc_q ci).2.1 k).2.1 ((jc_q ci).2.1 k).2.2.1 host ∈ jw_nest)
theorem jh_fv_at {a ci k n : Nat} (hk : k < n) : ((List.range n).map (jh_fv h a ci))[k]? = some (jh_fv h a ci k) := by simp [hk]
theorem jw_getv {idx ci k a : Nat} {v : jV} (hd : M.2.2.2.2 pc = some (.getfield idx, 3)) (hf : jl_f M.1.cls idx ci k) (ho : jh_O h a ci) (hv : jh_fv h a ci k = jv v) (kk : jw_J g d M T (pc + 3) ls (v :: st) h kc ks Q) : jw_J g d M T pc ls (.inr (.inr (some a)) :: st) h kc ks Q := by
  intro p e s m args below meth c R Z H locs cells slots arr hA hT hE hP hS hl hc hs
  obtain ⟨hx, hb, hml, hown, hts, hr, hlk, hnm, hwd, hdf, hdl, hst, hok⟩ := id hA
  obtain ⟨⟨hq, h100, hw, hty, hnn⟩, hk, hlink⟩ := hf
  obtain ⟨q0, he⟩ := jh_at (g := g) ho.1
  rw [jh_E_O h100 ho] at he
  have hcl : jc_cl[ci]? = some ((jc_q ci).1, (jc_q ci).2.1, (jc_q ci).2.2) := hq
  have hvk : ((List.range (jc_q ci).2.2).map (jh_fv h a ci))[k]? = some (jv v) := by rw [← hv]; exact jh_fv_at hk
  rcases hlink with hlink | ⟨host, hlink⟩
  · exact va_get hx hb hts hw hown hwd.1 hP.1 q0 he hcl k hk (hts _ hlink) (fun _ z => z) hvk (hok _ _ hd) (kk p e s m args below meth c R Z H locs cells slots arr hA hT hE hP hS hl hc hs)
  · exact va_getN hx hb hts hw hown hwd.1 hP.1 q0 he hcl k hk (jc_con_f hwd.2.2 hlink _) (fun _ z => z) hvk (hok _ _ hd) (kk p e s m args below meth c R Z H locs cells slots arr hA hT hE hP hS hl hc hs)
theorem jw_geti {idx ci k a : Nat} (hd : M.2.2.2.2 pc = some (.getfield idx, 3)) (hf : jl_f M.1.cls idx ci k) (ht : jc_so (jc_ty ci k) = 0) (ho : jh_O h a ci) (kk : jw_J g d M T (pc + 3) ls (.inl (jh_i h a (64 * ci + k)) :: st) h kc ks Q) : jw_J g d M T pc ls (.inr (.inr (some a)) :: st) h kc ks Q := jw_getv hd hf ho (by unfold jh_fv; rw [ht]; rfl) kk
theorem jw_getg {idx ci k a : Nat} (hd : M.2.2.2.2 pc = some (.getfield idx, 3)) (hf : jl_f M.1.cls idx ci k) (ht : jc_so (jc_ty ci k) = 1) (ho : jh_O h a ci) (kk : jw_J g d M T (pc + 3) ls (.inr (.inl (jh_g h a (64 * ci + k))) :: st) h kc ks Q) : jw_J g d M T pc ls (.inr (.inr (some a)) :: st) h kc ks Q := jw_getv hd hf ho (by unfold jh_fv; rw [ht]; rfl) kk
theorem jw_getr {idx ci k a : Nat} (hd : M.2.2.2.2 pc = some (.getfield idx, 3)) (hf : jl_f M.1.cls idx ci k) (ht : jc_so (jc_ty ci k) = 2) (ho : jh_O h a ci) (kk : jw_J g d M T (pc + 3) ls (.inr (.inr (jh_r h a (64 * ci + k))) :: st) h kc ks Q) : jw_J g d M T pc ls (.inr (.inr (some a)) :: st) h kc ks Q := jw_getv hd hf ho (by unfold jh_fv; rw [ht]; rfl) kk
/-- one field's new value, seen in the list of the fields -/
theorem jh_fv_set {h' : jh_H} {a ci k n : Nat} {v : Value} (e : ∀ j, j < n → jh_fv h' a ci j = if j = k then v else jh_fv h a ci j) : ((List.range n).map (jh_fv h a ci)).set k v = (List.range n).map (jh_fv h' a ci) := by
  apply List.ext_getElem
  · simp
  · intro j h1 h2
    have hj : j < n := by simpa using h2
    rw [List.getElem_set]
    simp only [List.getElem_map, List.getElem_range]
    rw [e j hj]
    by_cases q : k = j
    · subst q; simp
    · have q2 : ¬ j = k := fun z => q z.symm
      simp [q, q2]
/-- may a value be put: a final field only in the constructor of its own class -/
def jl_fin (M : jw_M) (ci k : Nat) : Prop := ((jc_q ci).2.1 k).2.2.2 = false ∨ (((jc_q ci).2.1 k).2.2.2 = true ∧ M.1.name = "<init>" ∧ ((jc_q ci).2.1 k).1 = M.1.cls)
theorem jw_putv {idx ci k a : Nat} {v : jV} {h' : jh_H} (hd : M.2.2.2.2 pc = some (.putfield idx, 3)) (hf : jl_f M.1.cls idx ci k) (hfin : jl_fin M ci k) (hnest : ((jc_q ci).2.1 k).2.2.2 = true → Cond.fieldLink M.1.cls idx ((jc_q ci).2.1 k).1 ((jc_q ci).2.1 k).2.1 ((jc_q ci).2.1 k).2.2.1 ∈ jw_big) (ho : jh_O h a ci) (hn : narrow (jc_ty ci k) (jv v) = jv v) (hfit : fits (jc_ty ci k) (jv v) = true)
    (hL : jh_L h' = jh_L h) (hK : jh_K h' = jh_K h) (hv : ∀ j, j < (jc_q ci).2.2 → jh_fv h' a ci j = if j = k then jv v else jh_fv h a ci j) (hot : ∀ b, b ≠ a → jh_E g h' b = jh_E g h b) (kk : jw_J g d M T (pc + 3) ls st h' kc ks Q) : jw_J g d M T pc ls (v :: .inr (.inr (some a)) :: st) h kc ks Q := by
  intro p e s m args below meth c R Z H locs cells slots arr hA hT hE hP hS hl hc hs
  obtain ⟨hx, hb, hml, hown, hts, hr, hlk, hnm, hwd, hdf, hdl, hst, hok⟩ := id hA
  obtain ⟨⟨hq, h100, hw, hty, hnn⟩, hk, hlink⟩ := hf
  obtain ⟨q0, he⟩ := jh_at (g := g) ho.1
  have he0 := he
  rw [jh_E_O h100 ho] at he
  have hcl : jc_cl[ci]? = some ((jc_q ci).1, (jc_q ci).2.1, (jc_q ci).2.2) := hq
  have ho' : jh_O h' a ci := ⟨by rw [hL]; exact ho.1, by rw [hK]; exact ho.2⟩
  have hset : (jh_W g h).set q0 (a, .inr (ci, ((List.range (jc_q ci).2.2).map (jh_fv h a ci)).set k (jv v))) = jh_W g h' := by
    rw [jh_fv_set hv, ← jh_E_O (g := g) h100 ho']
    exact jh_set hP.2 ho.1 he0 hL rfl hot
  have hlen : k < ((List.range (jc_q ci).2.2).map (jh_fv h a ci)).length := by simpa using hk
  have hgo : ∀ (H1 : Heap) (locs1 : List Loc), va_P (jg_D g) jc_cl ((jh_W g h).set q0 (a, .inr (ci, ((List.range (jc_q ci).2.2).map (jh_fv h a ci)).set k (jv v)))) H1 → va_D (jg_S g) ((jh_W g h).set q0 (a, .inr (ci, ((List.range (jc_q ci).2.2).map (jh_fv h a ci)).set k (jv v)))) → va_S (jg_S g) s.heap H1 locs1 → W p (jg_l g) e R s m args below meth c H1 locs1 cells slots Z (F0 m (pc + 3) arr (st.map jv)) := by
    intro H1 locs1 p1 d1 s1
    rw [hset] at p1 d1
    exact kk p e s m args below meth c R Z H1 locs1 cells slots arr hA hT hE ⟨p1, d1⟩ s1 hl hc hs
  rcases hfin with hfin | ⟨hfin, hi1, hi2⟩
  · rcases hlink with hlink | ⟨host, hlink⟩
    · exact va_put hx hb hts hw (jc_ty ci) hty hnn hown hwd.1 hP.1 hP.2 hS q0 he hcl k hk (hts _ hlink) (fun _ z => z) hfin (hty k hk) hn hfit hlen (hok _ _ hd) hgo
    · exact va_putN hx hb hts hw (jc_ty ci) hty hnn hown hwd.1 hP.1 hP.2 hS q0 he hcl k hk (jc_con_f hwd.2.2 hlink _) (fun _ z => z) hfin (hty k hk) hn hfit hlen (hok _ _ hd) hgo
  · exact va_putF hx hb hts hw (jc_ty ci) hty hnn hown hwd.1 hP.1 hP.2 hS q0 he hcl k hk (hts _ (hnest hfin)) (fun _ z => z) hfin (hnm.trans hi1) hi2 (hty k hk) hn hfit hlen (hok _ _ hd) hgo
/-- the word of a final field's entry, where it is one -/
def jl_w (M : jw_M) (idx ci k : Nat) : Prop := ((jc_q ci).2.1 k).2.2.2 = true → Cond.fieldLink M.1.cls idx ((jc_q ci).2.1 k).1 ((jc_q ci).2.1 k).2.1 ((jc_q ci).2.1 k).2.2.1 ∈ jw_big
theorem jh_key {ci k j : Nat} (h : ¬ j = k) : ¬ 64 * ci + j = 64 * ci + k := by omega
theorem jw_puti {idx ci k a : Nat} {x : Int32} (hd : M.2.2.2.2 pc = some (.putfield idx, 3)) (hf : jl_f M.1.cls idx ci k) (hfin : jl_fin M ci k) (hw : jl_w M idx ci k) (ht : jc_so (jc_ty ci k) = 0) (hn : narrow (jc_ty ci k) (.int x) = .int x) (hfit : fits (jc_ty ci k) (.int x) = true) (ho : jh_O h a ci) (kk : jw_J g d M T (pc + 3) ls st (jh_si h a (64 * ci + k) x) kc ks Q) : jw_J g d M T pc ls (.inl x :: .inr (.inr (some a)) :: st) h kc ks Q :=
  jw_putv (v := .inl x) (h' := jh_si h a (64 * ci + k) x) hd hf hfin hw ho hn hfit rfl rfl (fun j _ => by
    by_cases q : j = k
    · subst q; simp only [jh_fv, ht, if_pos]; exact congrArg Value.int (jh_u_s _ _ _ _)
    · simp only [jh_fv, if_neg q]
      show (match jc_so (jc_ty ci j) with | 0 => Value.int (jh_u (jh_i h) a (64 * ci + k) x a (64 * ci + j)) | 1 => .long (jh_g h a (64 * ci + j)) | _ => va_rf (jh_r h a (64 * ci + j))) = _
      rw [jh_u_k _ _ _ _ (jh_key q)]; rfl) (fun b hb => jh_E_o rfl (jh_u_row _ _ _ hb) rfl rfl rfl rfl rfl) kk
theorem jw_putg {idx ci k a : Nat} {x : Int64} (hd : M.2.2.2.2 pc = some (.putfield idx, 3)) (hf : jl_f M.1.cls idx ci k) (hfin : jl_fin M ci k) (hw : jl_w M idx ci k) (ht : jc_so (jc_ty ci k) = 1) (hn : narrow (jc_ty ci k) (.long x) = .long x) (hfit : fits (jc_ty ci k) (.long x) = true) (ho : jh_O h a ci) (kk : jw_J g d M T (pc + 3) ls st (jh_sg h a (64 * ci + k) x) kc ks Q) : jw_J g d M T pc ls (.inr (.inl x) :: .inr (.inr (some a)) :: st) h kc ks Q :=
  jw_putv (v := .inr (.inl x)) (h' := jh_sg h a (64 * ci + k) x) hd hf hfin hw ho hn hfit rfl rfl (fun j _ => by
    by_cases q : j = k
    · subst q; simp only [jh_fv, ht, if_pos]; exact congrArg Value.long (jh_u_s _ _ _ _)
    · simp only [jh_fv, if_neg q]
      show (match jc_so (jc_ty ci j) with | 0 => Value.int (jh_i h a (64 * ci + j)) | 1 => .long (jh_u (jh_g h) a (64 * ci + k) x a (64 * ci + j)) | _ => va_rf (jh_r h a (64 * ci + j))) = _
      rw [jh_u_k _ _ _ _ (jh_key q)]; rfl) (fun b hb => jh_E_o rfl rfl (jh_u_row _ _ _ hb) rfl rfl rfl rfl) kk
theorem jw_putr {idx ci k a : Nat} {r : Option Nat} (hd : M.2.2.2.2 pc = some (.putfield idx, 3)) (hf : jl_f M.1.cls idx ci k) (hfin : jl_fin M ci k) (hw : jl_w M idx ci k) (ht : jc_so (jc_ty ci k) = 2) (hn : ∀ r, narrow (jc_ty ci k) (va_rf r) = va_rf r) (hfit : ∀ r, fits (jc_ty ci k) (va_rf r) = true) (ho : jh_O h a ci) (kk : jw_J g d M T (pc + 3) ls st (jh_sr h a (64 * ci + k) r) kc ks Q) : jw_J g d M T pc ls (.inr (.inr r) :: .inr (.inr (some a)) :: st) h kc ks Q :=
  jw_putv (v := .inr (.inr r)) (h' := jh_sr h a (64 * ci + k) r) hd hf hfin hw ho (hn r) (hfit r) rfl rfl (fun j _ => by
    by_cases q : j = k
    · subst q; simp only [jh_fv, ht, if_pos]; exact congrArg va_rf (jh_u_s _ _ _ _)
    · simp only [jh_fv, if_neg q]
      show (match jc_so (jc_ty ci j) with | 0 => Value.int (jh_i h a (64 * ci + j)) | 1 => .long (jh_g h a (64 * ci + j)) | _ => va_rf (jh_u (jh_r h) a (64 * ci + k) r a (64 * ci + j))) = _
      rw [jh_u_k _ _ _ _ (jh_key q)]; rfl) (fun b hb => jh_E_o rfl rfl rfl (jh_u_row _ _ _ hb) rfl rfl rfl) kk

theorem jh_A_at {a t n : Nat} (ho : jh_A h a t n) : ∃ q0 : Nat, (jh_W g h)[q0]? = some (a, Sum.inl (jg_A g t, n, jh_ac h a t)) := by
  obtain ⟨q0, he⟩ := jh_at (g := g) ho.1
  rw [jh_E_A ho] at he
  exact ⟨q0, he⟩
theorem jw_alen {a t n : Nat} (hd : M.2.2.2.2 pc = some (.arraylength, 1)) (ht : t < jc_an) (ho : jh_A h a t n) (kk : jw_J g d M T (pc + 1) ls (.inl (nI n) :: st) h kc ks Q) : jw_J g d M T pc ls (.inr (.inr (some a)) :: st) h kc ks Q := by
  intro p e s m args below meth c R Z H locs cells slots arr hA hT hE hP hS hl hc hs
  obtain ⟨hx, hb, hml, hown, hts, hr, hlk, hnm, hwd, hdf, hdl, hst, hok⟩ := id hA
  obtain ⟨q0, he⟩ := jh_A_at (g := g) ho
  exact va_alen hx hb hwd.1 hP.1 q0 t he (jg_t_at g ht) rfl (hok _ _ hd) (kk p e s m args below meth c R Z H locs cells slots arr hA hT hE hP hS hl hc hs)
theorem jw_iald {a t n : Nat} {i : Int32} (j : Nat) (hd : M.2.2.2.2 pc = some (.iaload, 1)) (ht : t < jc_an) (hty : jc_at t = .int) (ho : jh_A h a t n) (hi : i = nI j) (hj : j < n) (hn : n < 2 ^ 31) (kk : jw_J g d M T (pc + 1) ls (.inl (jh_I h a j) :: st) h kc ks Q) : jw_J g d M T pc ls (.inl i :: .inr (.inr (some a)) :: st) h kc ks Q := by
  intro p e s m args below meth c R Z H locs cells slots arr hA hT hE hP hS hl hc hs
  obtain ⟨hx, hb, hml, hown, hts, hr, hlk, hnm, hwd, hdf, hdl, hst, hok⟩ := id hA
  obtain ⟨q0, he⟩ := jh_A_at (g := g) ho
  have e1 : jh_ac h a t = .inl (jh_I h a) := by simp only [jh_ac, hty, jc_so]
  rw [e1] at he
  subst hi
  have e2 : (nI j).toNatClampNeg = j := nI_clamp (by omega)
  exact va_iald hx hb hwd.1 hP.1 q0 t he (by rw [jg_t_at g ht, hty]) (vp_in_nI hj hn) (hok _ _ hd) (by rw [e2]; exact kk p e s m args below meth c R Z H locs cells slots arr hA hT hE hP hS hl hc hs)
theorem jw_cald {a t n : Nat} {i : Int32} (j : Nat) (hd : M.2.2.2.2 pc = some (.caload, 1)) (ht : t < jc_an) (hty : jc_at t = .char) (ho : jh_A h a t n) (hi : i = nI j) (hj : j < n) (hn : n < 2 ^ 31) (kk : jw_J g d M T (pc + 1) ls (.inl (jh_I h a j) :: st) h kc ks Q) : jw_J g d M T pc ls (.inl i :: .inr (.inr (some a)) :: st) h kc ks Q := by
  intro p e s m args below meth c R Z H locs cells slots arr hA hT hE hP hS hl hc hs
  obtain ⟨hx, hb, hml, hown, hts, hr, hlk, hnm, hwd, hdf, hdl, hst, hok⟩ := id hA
  obtain ⟨q0, he⟩ := jh_A_at (g := g) ho
  have e1 : jh_ac h a t = .inl (jh_I h a) := by simp only [jh_ac, hty, jc_so]
  rw [e1] at he
  subst hi
  have e2 : (nI j).toNatClampNeg = j := nI_clamp (by omega)
  exact va_cald hx hb hwd.1 hP.1 q0 t he (by rw [jg_t_at g ht, hty]) (vp_in_nI hj hn) (hok _ _ hd) (by rw [e2]; exact kk p e s m args below meth c R Z H locs cells slots arr hA hT hE hP hS hl hc hs)
theorem jw_lald {a t n : Nat} {i : Int32} (j : Nat) (hd : M.2.2.2.2 pc = some (.laload, 1)) (ht : t < jc_an) (hty : jc_at t = .long) (ho : jh_A h a t n) (hi : i = nI j) (hj : j < n) (hn : n < 2 ^ 31) (kk : jw_J g d M T (pc + 1) ls (.inr (.inl (jh_G h a j)) :: st) h kc ks Q) : jw_J g d M T pc ls (.inl i :: .inr (.inr (some a)) :: st) h kc ks Q := by
  intro p e s m args below meth c R Z H locs cells slots arr hA hT hE hP hS hl hc hs
  obtain ⟨hx, hb, hml, hown, hts, hr, hlk, hnm, hwd, hdf, hdl, hst, hok⟩ := id hA
  obtain ⟨q0, he⟩ := jh_A_at (g := g) ho
  have e1 : jh_ac h a t = .inr (.inl (jh_G h a)) := by simp only [jh_ac, hty, jc_so]
  rw [e1] at he
  subst hi
  have e2 : (nI j).toNatClampNeg = j := nI_clamp (by omega)
  exact va_lald hx hb hwd.1 hP.1 q0 t he (by rw [jg_t_at g ht, hty]) (vp_in_nI hj hn) (hok _ _ hd) (by rw [e2]; exact kk p e s m args below meth c R Z H locs cells slots arr hA hT hE hP hS hl hc hs)
theorem jw_aald {a t n : Nat} {i : Int32} {C : String} (j : Nat) (hd : M.2.2.2.2 pc = some (.aaload, 1)) (ht : t < jc_an) (hty : jc_at t = .object C) (ho : jh_A h a t n) (hi : i = nI j) (hj : j < n) (hn : n < 2 ^ 31) (kk : jw_J g d M T (pc + 1) ls (.inr (.inr (jh_R h a j)) :: st) h kc ks Q) : jw_J g d M T pc ls (.inl i :: .inr (.inr (some a)) :: st) h kc ks Q := by
  intro p e s m args below meth c R Z H locs cells slots arr hA hT hE hP hS hl hc hs
  obtain ⟨hx, hb, hml, hown, hts, hr, hlk, hnm, hwd, hdf, hdl, hst, hok⟩ := id hA
  obtain ⟨q0, he⟩ := jh_A_at (g := g) ho
  have e1 : jh_ac h a t = .inr (.inr (.inr (.inr (jh_R h a)))) := by simp only [jh_ac, hty, jc_so]
  rw [e1] at he
  subst hi
  have e2 : (nI j).toNatClampNeg = j := nI_clamp (by omega)
  exact va_aldq hx hb hwd.1 hP.1 q0 t he (by rw [jg_t_at g ht, hty]) (vp_in_nI hj hn) (hok _ _ hd) (by rw [e2]; exact kk p e s m args below meth c R Z H locs cells slots arr hA hT hE hP hS hl hc hs)
theorem jh_A_set {a t n q0 : Nat} {h' : jh_H} (hD : va_D (jg_S g) (jh_W g h)) (ho : jh_A h a t n) (he : (jh_W g h)[q0]? = some (a, .inl (jg_A g t, n, jh_ac h a t))) (hL : jh_L h' = jh_L h) (hK : jh_K h' = jh_K h) (hot : ∀ b, b ≠ a → jh_E g h' b = jh_E g h b) : (jh_W g h).set q0 (a, .inl (jg_A g t, n, jh_ac h' a t)) = jh_W g h' := by
  have ho' : jh_A h' a t n := ⟨by rw [hL]; exact ho.1, by rw [hK]; exact ho.2⟩
  rw [← jh_E_A (g := g) ho'] 
  rw [← jh_E_A (g := g) ho] at he
  exact jh_set hD ho.1 he hL rfl hot
theorem jh_u_up {α : Type} (f : Nat → Nat → α) (a k : Nat) (v : α) : jh_u f a k v a = va_up (f a) k v := by
  funext j; simp [jh_u, va_up]
theorem jh_upd (f : Nat → Int32) (k : Nat) (v : Int32) : upd f k v = va_up f k v := by
  funext j; simp [upd, va_up]
theorem jh_updL (f : Nat → Int64) (k : Nat) (v : Int64) : vp_updL f k v = va_up f k v := by
  funext j; simp [vp_updL, va_up]
theorem jw_iast {a t n : Nat} {i x : Int32} (j : Nat) (hd : M.2.2.2.2 pc = some (.iastore, 1)) (ht : t < jc_an) (hty : jc_at t = .int) (ho : jh_A h a t n) (hi : i = nI j) (hj : j < n) (hn : n < 2 ^ 31) (kk : jw_J g d M T (pc + 1) ls st (jh_sI h a j x) kc ks Q) : jw_J g d M T pc ls (.inl x :: .inl i :: .inr (.inr (some a)) :: st) h kc ks Q := by
  intro p e s m args below meth c R Z H locs cells slots arr hA hT hE hP hS hl hc hs
  obtain ⟨hx, hb, hml, hown, hts, hr, hlk, hnm, hwd, hdf, hdl, hst, hok⟩ := id hA
  obtain ⟨q0, he⟩ := jh_A_at (g := g) ho
  have hset := jh_A_set (h' := jh_sI h a j x) hP.2 ho he rfl rfl (fun b hb => jh_E_o rfl rfl rfl rfl (jh_u_row _ _ _ hb) rfl rfl)
  have e1 : jh_ac h a t = .inl (jh_I h a) := by simp only [jh_ac, hty, jc_so]
  have e3 : jh_ac (jh_sI h a j x) a t = .inl (va_up (jh_I h a) j x) := by
    simp only [jh_ac, hty, jc_so]; exact congrArg Sum.inl (jh_u_up _ _ _ _)
  rw [e1] at he
  rw [e3] at hset
  subst hi
  have e2 : (nI j).toNatClampNeg = j := nI_clamp (by omega)
  refine va_iast hx hb hwd.1 hP.1 hP.2 hS q0 t he (by rw [jg_t_at g ht, hty]) (vp_in_nI hj hn) (hok _ _ hd) (fun H1 locs1 p1 d1 s1 => ?_)
  rw [e2, jh_upd, hset] at p1 d1
  exact kk p e s m args below meth c R Z H1 locs1 cells slots arr hA hT hE ⟨p1, d1⟩ s1 hl hc hs
theorem jw_cast {a t n : Nat} {i x : Int32} (j : Nat) (hd : M.2.2.2.2 pc = some (.castore, 1)) (ht : t < jc_an) (hty : jc_at t = .char) (ho : jh_A h a t n) (hi : i = nI j) (hj : j < n) (hn : n < 2 ^ 31) (kk : jw_J g d M T (pc + 1) ls st (jh_sI h a j (vp_nar .char x)) kc ks Q) : jw_J g d M T pc ls (.inl x :: .inl i :: .inr (.inr (some a)) :: st) h kc ks Q := by
  intro p e s m args below meth c R Z H locs cells slots arr hA hT hE hP hS hl hc hs
  obtain ⟨hx, hb, hml, hown, hts, hr, hlk, hnm, hwd, hdf, hdl, hst, hok⟩ := id hA
  obtain ⟨q0, he⟩ := jh_A_at (g := g) ho
  have hset := jh_A_set (h' := jh_sI h a j (vp_nar .char x)) hP.2 ho he rfl rfl (fun b hb => jh_E_o rfl rfl rfl rfl (jh_u_row _ _ _ hb) rfl rfl)
  have e1 : jh_ac h a t = .inl (jh_I h a) := by simp only [jh_ac, hty, jc_so]
  have e3 : jh_ac (jh_sI h a j (vp_nar .char x)) a t = .inl (va_up (jh_I h a) j (vp_nar .char x)) := by
    simp only [jh_ac, hty, jc_so]; exact congrArg Sum.inl (jh_u_up _ _ _ _)
  rw [e1] at he
  rw [e3] at hset
  subst hi
  have e2 : (nI j).toNatClampNeg = j := nI_clamp (by omega)
  refine va_cast hx hb hwd.1 hP.1 hP.2 hS q0 t he (by rw [jg_t_at g ht, hty]) (vp_in_nI hj hn) (hok _ _ hd) (fun H1 locs1 p1 d1 s1 => ?_)
  rw [e2, jh_upd, hset] at p1 d1
  exact kk p e s m args below meth c R Z H1 locs1 cells slots arr hA hT hE ⟨p1, d1⟩ s1 hl hc hs
theorem jw_last {a t n : Nat} {i : Int32} {x : Int64} (j : Nat) (hd : M.2.2.2.2 pc = some (.lastore, 1)) (ht : t < jc_an) (hty : jc_at t = .long) (ho : jh_A h a t n) (hi : i = nI j) (hj : j < n) (hn : n < 2 ^ 31) (kk : jw_J g d M T (pc + 1) ls st (jh_sG h a j x) kc ks Q) : jw_J g d M T pc ls (.inr (.inl x) :: .inl i :: .inr (.inr (some a)) :: st) h kc ks Q := by
  intro p e s m args below meth c R Z H locs cells slots arr hA hT hE hP hS hl hc hs
  obtain ⟨hx, hb, hml, hown, hts, hr, hlk, hnm, hwd, hdf, hdl, hst, hok⟩ := id hA
  obtain ⟨q0, he⟩ := jh_A_at (g := g) ho
  have hset := jh_A_set (h' := jh_sG h a j x) hP.2 ho he rfl rfl (fun b hb => jh_E_o rfl rfl rfl rfl rfl (jh_u_row _ _ _ hb) rfl)
  have e1 : jh_ac h a t = .inr (.inl (jh_G h a)) := by simp only [jh_ac, hty, jc_so]
  have e3 : jh_ac (jh_sG h a j x) a t = .inr (.inl (va_up (jh_G h a) j x)) := by
    simp only [jh_ac, hty, jc_so]; exact congrArg (fun z => Sum.inr (Sum.inl z)) (jh_u_up _ _ _ _)
  rw [e1] at he
  rw [e3] at hset
  subst hi
  have e2 : (nI j).toNatClampNeg = j := nI_clamp (by omega)
  refine va_last hx hb hwd.1 hP.1 hP.2 hS q0 t he (by rw [jg_t_at g ht, hty]) (vp_in_nI hj hn) (hok _ _ hd) (fun H1 locs1 p1 d1 s1 => ?_)
  rw [e2, jh_updL, hset] at p1 d1
  exact kk p e s m args below meth c R Z H1 locs1 cells slots arr hA hT hE ⟨p1, d1⟩ s1 hl hc hs
theorem jw_aast {a t n v ci : Nat} {i : Int32} (j : Nat) (hd : M.2.2.2.2 pc = some (.aastore, 1)) (ht : t < jc_an) (hcq : jc_ok ci) (hty : jc_at t = .object (jc_q ci).1) (ho : jh_A h a t n) (hv : jh_O h v ci) (hi : i = nI j) (hj : j < n) (hn : n < 2 ^ 31) (kk : jw_J g d M T (pc + 1) ls st (jh_sR h a j (some v)) kc ks Q) : jw_J g d M T pc ls (.inr (.inr (some v)) :: .inl i :: .inr (.inr (some a)) :: st) h kc ks Q := by
  intro p e s m args below meth c R Z H locs cells slots arr hA hT hE hP hS hl hc hs
  obtain ⟨hx, hb, hml, hown, hts, hr, hlk, hnm, hwd, hdf, hdl, hst, hok⟩ := id hA
  obtain ⟨q0, he⟩ := jh_A_at (g := g) ho
  obtain ⟨qk, hk⟩ := jh_at (g := g) hv.1
  rw [jh_E_O hcq.2.1 hv] at hk
  have hset := jh_A_set (h' := jh_sR h a j (some v)) hP.2 ho he rfl rfl (fun b hb => jh_E_o rfl rfl rfl rfl rfl rfl (jh_u_row _ _ _ hb))
  have e1 : jh_ac h a t = .inr (.inr (.inr (.inr (jh_R h a)))) := by simp only [jh_ac, hty, jc_so]
  have e3 : jh_ac (jh_sR h a j (some v)) a t = .inr (.inr (.inr (.inr (va_up (jh_R h a) j (some v))))) := by
    simp only [jh_ac, hty, jc_so]; exact congrArg (fun z => Sum.inr (Sum.inr (Sum.inr (Sum.inr z)))) (jh_u_up _ _ _ _)
  rw [e1] at he
  rw [e3] at hset
  subst hi
  have e2 : (nI j).toNatClampNeg = j := nI_clamp (by omega)
  refine va_astq hx hb hwd.1 hP.1 hP.2 hS q0 t qk ci (r := jc_q ci) he (by rw [jg_t_at g ht, hty]) hk hcq.1 (vp_in_nI hj hn) (hok _ _ hd) (fun H1 locs1 p1 d1 s1 => ?_)
  rw [e2, hset] at p1 d1
  exact kk p e s m args below meth c R Z H1 locs1 cells slots arr hA hT hE ⟨p1, d1⟩ s1 hl hc hs
theorem jw_aastN {a t n : Nat} {i : Int32} {C : String} (j : Nat) (hd : M.2.2.2.2 pc = some (.aastore, 1)) (ht : t < jc_an) (hty : jc_at t = .object C) (ho : jh_A h a t n) (hi : i = nI j) (hj : j < n) (hn : n < 2 ^ 31) (kk : jw_J g d M T (pc + 1) ls st (jh_sR h a j none) kc ks Q) : jw_J g d M T pc ls (.inr (.inr none) :: .inl i :: .inr (.inr (some a)) :: st) h kc ks Q := by
  intro p e s m args below meth c R Z H locs cells slots arr hA hT hE hP hS hl hc hs
  obtain ⟨hx, hb, hml, hown, hts, hr, hlk, hnm, hwd, hdf, hdl, hst, hok⟩ := id hA
  obtain ⟨q0, he⟩ := jh_A_at (g := g) ho
  have hset := jh_A_set (h' := jh_sR h a j none) hP.2 ho he rfl rfl (fun b hb => jh_E_o rfl rfl rfl rfl rfl rfl (jh_u_row _ _ _ hb))
  have e1 : jh_ac h a t = .inr (.inr (.inr (.inr (jh_R h a)))) := by simp only [jh_ac, hty, jc_so]
  have e3 : jh_ac (jh_sR h a j none) a t = .inr (.inr (.inr (.inr (va_up (jh_R h a) j none)))) := by
    simp only [jh_ac, hty, jc_so]; exact congrArg (fun z => Sum.inr (Sum.inr (Sum.inr (Sum.inr z)))) (jh_u_up _ _ _ _)
  rw [e1] at he
  rw [e3] at hset
  subst hi
  have e2 : (nI j).toNatClampNeg = j := nI_clamp (by omega)
  refine va_astqN hx hb hwd.1 hP.1 hP.2 hS q0 t he (by rw [jg_t_at g ht, hty]) (vp_in_nI hj hn) (hok _ _ hd) (fun H1 locs1 p1 d1 s1 => ?_)
  rw [e2, hset] at p1 d1
  exact kk p e s m args below meth c R Z H1 locs1 cells slots arr hA hT hE ⟨p1, d1⟩ s1 hl hc hs
/-- a new cell -/
theorem jh_push {q kd n : Nat} {ee : va_E} (hq : q ∉ jh_L h) (he : jh_E g (jh_nw h q kd n) q = ee) : jh_W g h ++ [(q, ee)] = jh_W g (jh_nw h q kd n) := by
  rw [jh_W, va_pl_push hq, jh_W]
  show va_pl (jh_L h ++ [q]) _ = va_pl (jh_L h ++ [q]) _
  refine va_pl_congr (fun b => ?_)
  by_cases hb : b = q
  · subst hb; rw [va_up_self, he]
  · rw [va_up_ne _ _ hb]
    exact (jh_E_o (h := h) (h' := jh_nw h q kd n) (b := b) (va_up_ne _ _ hb) (jh_z_row _ _ hb) (jh_z_row _ _ hb) (jh_z_row _ _ hb) (jh_z_row _ _ hb) (jh_z_row _ _ hb) (jh_z_row _ _ hb)).symm
theorem jh_nin {q : Nat} {ee : va_E} {A : Nat → Prop} (hD : va_D A (jh_W g h ++ [(q, ee)])) : q ∉ jh_L h := by
  intro hq
  obtain ⟨k, hk⟩ := jh_at (g := g) hq
  have hk' := (List.getElem?_eq_some_iff.mp hk).1
  have h1 : (jh_W g h ++ [(q, ee)])[k]? = some (q, jh_E g h q) := by rw [List.getElem?_append_left hk']; exact hk
  have h2 : (jh_W g h ++ [(q, ee)])[(jh_W g h).length]? = some (q, ee) := by simp
  have := hD.1 _ _ _ _ h1 h2 rfl
  omega
theorem jw_new {idx ci : Nat} (hd : M.2.2.2.2 pc = some (.new idx, 3)) (hcq : jc_ok ci) (hcl : Cond.classLink M.1.cls idx (jc_q ci).1 ∈ jw_big) (hin : Cond.instantiable (jc_q ci).1 (jc_q ci).2.2 ∈ jw_big) (hini : Cond.initialized (jc_q ci).1 ∈ jw_big) (hdv : ∀ j, j < (jc_q ci).2.2 → defaultValue (jc_ty ci j) = (match jc_so (jc_ty ci j) with | 0 => Value.int 0 | 1 => .long 0 | _ => .null)) (h1 : 1 ≤ kc) (h2 : (jc_q ci).2.2 ≤ ks)
    (kk : ∀ q, q ∉ jh_L h → jw_J g d M T (pc + 3) ls (.inr (.inr (some q)) :: st) (jh_nw h q ci (jc_q ci).2.2) (kc - 1) (ks - (jc_q ci).2.2) Q) : jw_J g d M T pc ls st h kc ks Q := by
  intro p e s m args below meth c R Z H locs cells slots arr hA hT hE hP hS hl hc hs
  obtain ⟨hx, hb, hml, hown, hts, hr, hlk, hnm, hwd, hdf, hdl, hst, hok⟩ := id hA
  obtain ⟨hq, h100, hw, hty, hnn⟩ := hcq
  have hcl0 : jc_cl[ci]? = some ((jc_q ci).1, (jc_q ci).2.1, (jc_q ci).2.2) := hq
  refine va_new hx hb hts hw (jc_ty ci) hty hown (hts _ hcl) (hts _ hin) (hts _ hini) hwd.1 hP.1 hP.2 hS (fun q z => Nat.le_trans hwd.2.1 z) hcl0 (fs := (List.range (jc_q ci).2.2).map (fun j => match jc_so (jc_ty ci j) with | 0 => Value.int 0 | 1 => .long 0 | _ => .null)) (fun j hj => ?_) (by omega) (by omega) (hok _ _ hd) (fun q H1 p1 d1 s1 => ?_)
  · rw [hdv j hj, vp_V, List.getD_eq_getElem?_getD]; simp [hj]
  · have hn := jh_nin d1
    have he : jh_E g (jh_nw h q ci (jc_q ci).2.2) q = .inr (ci, (List.range (jc_q ci).2.2).map (fun j => match jc_so (jc_ty ci j) with | 0 => Value.int 0 | 1 => .long 0 | _ => .null)) := by
      have ho : jh_O (jh_nw h q ci (jc_q ci).2.2) q ci := ⟨by simp [jh_nw, jh_L], va_up_self _ _ _⟩
      rw [jh_E_O h100 ho]
      refine congrArg (fun z => Sum.inr (ci, z)) (List.map_congr_left (fun j _ => ?_))
      simp only [jh_fv]
      show (match jc_so (jc_ty ci j) with | 0 => Value.int (jh_z (jh_i h) q 0 q (64 * ci + j)) | 1 => .long (jh_z (jh_g h) q 0 q (64 * ci + j)) | _ => va_rf (jh_z (jh_r h) q none q (64 * ci + j))) = _
      rw [jh_z_s, jh_z_s, jh_z_s]; rfl
    rw [jh_push hn he] at p1 d1
    exact kk q hn p e s m args below meth c R Z H1 locs (cells + 1) (slots + (jc_q ci).2.2) arr hA hT hE ⟨p1, d1⟩ s1 hl (by omega) (by omega)
/-- the array's class is the one that the tables name -/
theorem jw_cA {t : Nat} {s : State} {cA : ClassId} {L : List (ClassId × FieldType)} (ht : t < jc_an) (hK : va_K (jg_D g) jc_cl (jg_t g) s) (hK2 : va_K (jg_D g) jc_cl (L ++ [(cA, jc_at t)]) s) : cA = jg_A g t := by
  have h1 := (hK.2 t _ (jg_t_at g ht)).2
  have h2 := (hK2.2 L.length (cA, jc_at t) (by simp)).2
  revert h1 h2
  cases jc_at t <;> intro h1 h2
  case object C =>
    obtain ⟨-, -, -, -, -, e1⟩ := h1
    obtain ⟨-, -, -, -, -, e2⟩ := h2
    exact Option.some.inj (e2.symm.trans e1)
  all_goals exact Option.some.inj (Eq.trans (Eq.symm h2) h1)
theorem jw_newa {t n : Nat} {i : Int32} {aty : ArrayType} (hd : M.2.2.2.2 pc = some (.newarray aty, 2)) (ht : t < jc_an) (hty : newarray.typeOf aty = jc_at t) (hso : (jc_so (jc_at t) = 0 ∧ defaultValue (jc_at t) = .int 0) ∨ (jc_at t = .long)) (harr : Cond.arrayClass (newarray.typeOf aty) ∈ jw_big) (hi : i = nI n) (hn : n * componentBytes (jc_at t) ≤ 536870912) (hn2 : n < 2 ^ 31) (h1 : 1 ≤ kc) (h2 : n ≤ ks)
    (kk : ∀ q, q ∉ jh_L h → jw_J g d M T (pc + 2) ls (.inr (.inr (some q)) :: st) (jh_nw h q (100 + t) n) (kc - 1) (ks - n) Q) : jw_J g d M T pc ls (.inl i :: st) h kc ks Q := by
  intro p e s m args below meth c R Z H locs cells slots arr hA hT hE hP hS hl hc hs
  obtain ⟨hx, hb, hml, hown, hts, hr, hlk, hnm, hwd, hdf, hdl, hst, hok⟩ := id hA
  subst hi
  have hneg : ¬ nI n < 0 := nI_pos hn2
  have hcl : (nI n).toNatClampNeg = n := nI_clamp hn2
  have hgo : ∀ (a0 : vp_A), a0 = (n, jh_ac (jh_nw h 0 (100 + t) n) 0 t) → True := fun _ _ => trivial
  rcases hso with ⟨hso, hdv⟩ | hso
  · refine va_newa hx hb (hts _ harr) hty hwd.1 hP.1 hP.2 hS (fun q z => Nat.le_trans hwd.2.1 z) (N' := n) (a0 := (n, .inl (fun _ => 0))) (fun cA => ?_) hneg hcl hn (by omega) (by omega) (hok _ _ hd) (fun q cA H1 k1 p1 d1 s1 => ?_)
    · rw [hdv]; rfl
    · have hn := jh_nin d1
      have ecA := jw_cA ht hwd.1 k1
      subst ecA
      have he : jh_E g (jh_nw h q (100 + t) n) q = .inl (jg_A g t, n, .inl (fun _ => 0)) := by
        have ho : jh_A (jh_nw h q (100 + t) n) q t n := ⟨by simp [jh_nw, jh_L], va_up_self _ _ _⟩
        rw [jh_E_A ho]
        have : jh_ac (jh_nw h q (100 + t) n) q t = .inl (fun _ => 0) := by
          simp only [jh_ac, hso]; exact congrArg Sum.inl (funext (fun j => jh_z_s _ _ _ _))
        rw [this]
      rw [jh_push hn he] at p1 d1
      exact kk q hn p e s m args below meth c R Z H1 locs (cells + 1) (slots + n) arr hA hT hE ⟨p1, d1⟩ s1 hl (by omega) (by omega)
  · refine va_newa hx hb (hts _ harr) hty hwd.1 hP.1 hP.2 hS (fun q z => Nat.le_trans hwd.2.1 z) (N' := n) (a0 := (n, .inr (.inl (fun _ => 0)))) (fun cA => ?_) hneg hcl hn (by omega) (by omega) (hok _ _ hd) (fun q cA H1 k1 p1 d1 s1 => ?_)
    · rw [hso]; rfl
    · have hn := jh_nin d1
      have ecA := jw_cA ht hwd.1 k1
      subst ecA
      have he : jh_E g (jh_nw h q (100 + t) n) q = .inl (jg_A g t, n, .inr (.inl (fun _ => 0))) := by
        have ho : jh_A (jh_nw h q (100 + t) n) q t n := ⟨by simp [jh_nw, jh_L], va_up_self _ _ _⟩
        rw [jh_E_A ho]
        have : jh_ac (jh_nw h q (100 + t) n) q t = .inr (.inl (fun _ => 0)) := by
          simp only [jh_ac, hso, jc_so]; exact congrArg (fun z => Sum.inr (Sum.inl z)) (funext (fun j => jh_z_s _ _ _ _))
        rw [this]
      rw [jh_push hn he] at p1 d1
      exact kk q hn p e s m args below meth c R Z H1 locs (cells + 1) (slots + n) arr hA hT hE ⟨p1, d1⟩ s1 hl (by omega) (by omega)
theorem jw_newq {t n idx : Nat} {i : Int32} {C : String} (hd : M.2.2.2.2 pc = some (.anewarray idx, 3)) (ht : t < jc_an) (hty : jc_at t = .object C) (hcl : Cond.classLink M.1.cls idx C ∈ jw_big) (hi : i = nI n) (hn : n * 4 ≤ 536870912) (h1 : 1 ≤ kc) (h2 : n ≤ ks)
    (kk : ∀ q, q ∉ jh_L h → jw_J g d M T (pc + 3) ls (.inr (.inr (some q)) :: st) (jh_nw h q (100 + t) n) (kc - 1) (ks - n) Q) : jw_J g d M T pc ls (.inl i :: st) h kc ks Q := by
  intro p e s m args below meth c R Z H locs cells slots arr hA hT hE hP hS hl hc hs
  obtain ⟨hx, hb, hml, hown, hts, hr, hlk, hnm, hwd, hdf, hdl, hst, hok⟩ := id hA
  subst hi
  have hn2 : n < 2 ^ 31 := by omega
  refine va_newq hx hb hown (hts _ hcl) (hwd.2.2.2.2 t C ht hty) hwd.1 hP.1 hP.2 hS (fun q z => Nat.le_trans hwd.2.1 z) (N' := n) (nI_pos hn2) (nI_clamp hn2) hn (by omega) (by omega) (hok _ _ hd) (fun q cA H1 k1 p1 d1 s1 => ?_)
  have hnn := jh_nin d1
  rw [← hty] at k1
  have ecA := jw_cA ht hwd.1 k1
  subst ecA
  have he : jh_E g (jh_nw h q (100 + t) n) q = .inl (jg_A g t, n, .inr (.inr (.inr (.inr (fun _ => none))))) := by
    have ho : jh_A (jh_nw h q (100 + t) n) q t n := ⟨by simp [jh_nw, jh_L], va_up_self _ _ _⟩
    rw [jh_E_A ho]
    have : jh_ac (jh_nw h q (100 + t) n) q t = .inr (.inr (.inr (.inr (fun _ => none)))) := by
      simp only [jh_ac, hty, jc_so]; exact congrArg (fun z => Sum.inr (Sum.inr (Sum.inr (Sum.inr z)))) (funext (fun j => jh_z_s _ _ _ _))
    rw [this]
  rw [jh_push hnn he] at p1 d1
  exact kk q hnn p e s m args below meth c R Z H1 locs (cells + 1) (slots + n) arr hA hT hE ⟨p1, d1⟩ s1 hl (by omega) (by omega)
end JWH
end
section
/-! CALLS OF METHODS THAT MAY THROW, of any kind: what the machine does at the call is told by 'hstep', what the callee does by its contract. -/
section JNA
variable {p : Program} {l : Launch} {e : Env} {R : Room} {s : State} {m : MethodId} {args : Array Value} {below : List Frame} {meth : Method} {c : Code} {H : Heap} {locs : List Loc} {cells slots : Nat}
variable {y : MethodName} {bytes cc : ByteArray} {maxL nL mc ms n index : Nat} {ret : Option FieldType} {ws : List Cond} {rm : Room} {Pc : Array Value → State → Prop} {Qc : Array Value → State → Outcome → State → Prop} {XC : String → State → State → Prop} {free : Addr → Prop} {Ts : List Cond} {own C host : String} {b : Addr} {As rest : List Value} {g : JFrame}
/-- both ends of a call, out of the callee's contract and the machine's own step -/
theorem jn_go {T : State} {vm₁ : Vm} {mk : MethodId} {ig : Instr} {A : Array Value} (hT : T.heap = H) (hK : vx_Back l R p e below s args y 3 8 (PreOf R mc ms Pc) (PostOf Qc mc ms free) (vx_Post XC mc ms free)) (X₁ : Stand p l e R s m args below meth c (T.setVm vm₁) locs cells slots) (hg : g.method = m) (hsize : g.locals.size = c.maxLocals) (hdg : decode c.code g.pc = .ok (ig, 3))
    (hW : 2 * g.monitorRoom + (rest.map fun v => v.category).sum ≤ 8) (hnm : (T.setVm vm₁).methodNamed? y = some mk) (hpre : Pc A (T.setVm vm₁)) (hf : cells + mc ≤ R.cells ∧ slots + ms ≤ R.slots)
    (hstep : ∀ target, Steps p.tables e below (doInvoke e ((T.setVm vm₁).setTop { g with stack := rest }) [] mk A).1 target → Steps p.tables e below (T.setTop g) target) :
    (∃ (v : Option Value) (st₀ t T' : State) (L : List Loc), st₀.heap = H ∧ Stand p l e R s m args below meth c T' (locs ++ L) (cells + mc) (slots + ms) ∧ (∀ q ∈ L, free q.base) ∧ T'.heap = t.heap ∧ T'.vm = t.vm ∧ Qc A st₀ (.returned v) t ∧
      Goes p e below T g T' { g with pc := g.pc + 3, stack := v.toList ++ rest }) ∨
    (∃ (q : Addr) (st₀ t T' : State) (L : List Loc) (E : String) (ce : Cell), st₀.heap = H ∧ Stand p l e R s m args below meth c T' (locs ++ L) (cells + mc) (slots + ms) ∧ (∀ z ∈ L, free z.base) ∧ T'.heap = t.heap ∧ T'.vm = t.vm ∧ XC E st₀ t ∧ t.heap[q]? = some ce ∧ ce.vm = .none ∧ s.vm.findClass E = some ce.cls ∧
      Steps p.tables e below (T.setTop g) ((T'.setTop { g with stack := rest }).pushFrame (.throwing q))) := by
  have hPre : PreOf R mc ms Pc ⟨T.setVm vm₁, locs, cells, slots⟩ A := ⟨hf.1, hf.2, hpre⟩
  rcases hK m meth c ⟨T.setVm vm₁, locs, cells, slots⟩ { g with stack := rest } ig mk A X₁ hg hsize hdg hW hnm hPre with ⟨v, ⟨U', l2, c2, s2⟩, X', ⟨g', mk', t, L, e1, e2, hq, h1, hL, h2, h3⟩, st⟩ | ⟨q, ⟨U', l2, c2, s2⟩, X', ⟨g', mk', t, L, E, ce, e1, e2, hq, hce, hcv, hcl, h1, hL, h2, h3⟩, st⟩
  · dsimp only [Pt.U, Pt.locs, Pt.cells, Pt.slots] at X' e1 e2 h1 h2 h3 st
    subst h1; subst h2; subst h3
    exact Or.inl ⟨v, (T.setVm vm₁).calling g' mk' A, t, U', L, hT, X', hL, e1, e2, hq, fun tg h => hstep tg (st.trans h)⟩
  · dsimp only [Pt.U, Pt.locs, Pt.cells, Pt.slots] at X' e1 e2 h1 h2 h3 st hcl
    subst h1; subst h2; subst h3
    exact Or.inr ⟨q, (T.setVm vm₁).calling g' mk' A, t, U', L, E, ce, hT, X', hL, e1, e2, hq, hce, hcv, vx_cls X₁.warmed hcl, hstep _ st⟩
theorem jn_V (S : CallFix p m c cc nL s args Ts own) (hM : vx_Met l y ws rm Pc Qc XC mc ms free) (cw : va_CN R s args own index y host bytes maxL ret ws rm mc ms n ∧ (Cond.instanceMethod y).before args s = true ∧ (Cond.selects C y y).before args s = true) (hp : PreV s H C b Pc As)
    (hg : g.method = m) (hn : As.length = n) (hsize : g.locals.size = nL) (hstack : g.stack = As.reverse ++ .ref b :: rest) (hW : 2 * g.monitorRoom + (rest.map fun v => v.category).sum ≤ 8) (hdg : decode cc g.pc = .ok (.invokevirtual index, 3)) (hf : cells + mc ≤ R.cells ∧ slots + ms ≤ R.slots) :
    vx_Run p l e R s m args below meth c H locs cells slots mc ms g rest (Qc (Value.ref b :: As).toArray) XC free := by
  obtain ⟨⟨⟨hrc, hrs, hfr, hlo, hws, hcw⟩, hcode, hini, hy, hlen, hl⟩, hinst, hsel⟩ := cw
  have hK := vx_back (bytes := bytes) (maxL := maxL) (ret := ret) (len := 3) (W9 := 8) (R := R) (p := p) (e := e) (below := below) (s := s) (sargs := args) hM hp.1 hrc hrs hfr hlo hws hcw (fun a' U hW => word_at hW (Or.inl (by first | rfl | simp [Cond.onTables, Cond.keeps, Cond.steady])) hini)
  obtain ⟨hx, hb, hml, ho, -⟩ := S
  obtain ⟨-, ⟨cellB, hcB, hoB, hclB⟩, hPc⟩ := hp
  intro T hT X
  obtain ⟨mk, methM, hnamed, hmethM, hstM, habM⟩ := Cond.instanceMethod_spec hinst
  obtain ⟨methM', cM, hmethM', -, -, -, -, -, -, hsigM⟩ := Cond.code_spec hnamed hcode
  cases hmethM.symm.trans hmethM'
  obtain ⟨c2, r2, m2, q1, q2, q3, q4, kP, hkP, hkPi⟩ := Cond.selects_spec hsel
  cases hclB.symm.trans q1
  cases (State.methodFound?_of_named hnamed hy).symm.trans q2
  cases hnamed.symm.trans q3
  have hselP : selectMethod e.platform s.vm cellB.cls mk = .method mk := by rw [Launch.admits_selectMethod X.admits]; exact q4
  obtain ⟨vm₁, X₁, hstep₁⟩ := X.invokevirtualNest hx ho hl hnamed hmethM hstM hkP hkPi hy (a := b) (cell := cellB) (by rw [hT]; exact hcB)
    (fun z h => by rw [h] at hoB; cases hoB) hselP hmethM habM hkP hkPi (g := g) hg (argsL := As) (rest := rest) (hn.trans (hlen _ hsigM)) hstack (by rw [hb]; exact hdg)
  exact jn_go hT hK X₁ hg (hsize.trans hml.symm) (by rw [hb]; exact hdg) hW (X₁.named hnamed) (hPc (T.setVm vm₁) hT X₁.warmed) hf (fun tg h => hstep₁ _ fun acts => by rw [doInvoke_state]; exact h)
theorem jn_S (S : CallFix p m c cc nL s args Ts own) (hM : vx_Met l y ws rm Pc Qc XC mc ms free) (cw : va_CN R s args own index y host bytes maxL ret ws rm mc ms n ∧ (Cond.static y).before args s = true ∧ True) (hp : PreS s H Pc As)
    (hg : g.method = m) (hn : As.length = n) (hsize : g.locals.size = nL) (hstack : g.stack = As.reverse ++ rest) (hW : 2 * g.monitorRoom + (rest.map fun v => v.category).sum ≤ 8) (hdg : decode cc g.pc = .ok (.invokestatic index, 3)) (hf : cells + mc ≤ R.cells ∧ slots + ms ≤ R.slots) :
    vx_Run p l e R s m args below meth c H locs cells slots mc ms g rest (Qc As.toArray) XC free := by
  obtain ⟨⟨⟨hrc, hrs, hfr, hlo, hws, hcw⟩, hcode, hini, hy, hlen, hl⟩, hstat, -⟩ := cw
  have hK := vx_back (bytes := bytes) (maxL := maxL) (ret := ret) (len := 3) (W9 := 8) (R := R) (p := p) (e := e) (below := below) (s := s) (sargs := args) hM hp.1 hrc hrs hfr hlo hws hcw (fun a' U hW => word_at hW (Or.inl (by first | rfl | simp [Cond.onTables, Cond.keeps, Cond.steady])) hini)
  obtain ⟨hx, hb, hml, ho, -⟩ := S
  have hPc := hp.2
  intro T hT X
  obtain ⟨mk, hnamed⟩ := Cond.code_named hcode
  obtain ⟨methM, cM, hmethM, -, -, -, -, -, -, hsigM⟩ := Cond.code_spec hnamed hcode
  have hstatic : methM.isStatic = true := Cond.static_spec hnamed hmethM hstat
  obtain ⟨kP, hkP, -⟩ := className_of_methodNamed hnamed
  have hinitP : kP.init = .initialized := Cond.initialized_spec (findClass_of_methodNamed hnamed) hkP hini
  obtain ⟨vm₁, X₁, hstep₁⟩ := X.invokestaticNest hx ho hl hnamed hmethM hstatic hkP hinitP hy (g := g) hg (argsL := As) (rest := rest) (hn.trans (hlen _ hsigM)) hstack (by rw [hb]; exact hdg)
  exact jn_go hT hK X₁ hg (hsize.trans hml.symm) (by rw [hb]; exact hdg) hW (X₁.named hnamed) (hPc (T.setVm vm₁) hT X₁.warmed) hf (fun tg h => hstep₁ _ fun acts => by rw [doInvoke_state]; exact h)
theorem jn_IN (S : CallFix p m c cc nL s args Ts own) (hM : vx_Met l y ws rm Pc Qc XC mc ms free) (cw : va_CN R s args own index y host bytes maxL none ws rm mc ms n ∧ y.name = "<init>" ∧ (Cond.instanceMethod y).before args s = true) (hp : PreS s H Pc (.ref b :: As))
    (hg : g.method = m) (hn : As.length = n) (hsize : g.locals.size = nL) (hstack : g.stack = As.reverse ++ .ref b :: rest) (hW : 2 * g.monitorRoom + (rest.map fun v => v.category).sum ≤ 8) (hdg : decode cc g.pc = .ok (.invokespecial index, 3)) (hf : cells + mc ≤ R.cells ∧ slots + ms ≤ R.slots) :
    vx_Run p l e R s m args below meth c H locs cells slots mc ms g rest (Qc (Value.ref b :: As).toArray) XC free := by
  obtain ⟨⟨⟨hrc, hrs, hfr, hlo, hws, hcw⟩, hcode, hini, hy, hlen, hl⟩, hy1, hinst⟩ := cw
  have hK := vx_back (bytes := bytes) (maxL := maxL) (ret := none) (len := 3) (W9 := 8) (R := R) (p := p) (e := e) (below := below) (s := s) (sargs := args) hM hp.1 hrc hrs hfr hlo hws hcw (fun a' U hW => word_at hW (Or.inl (by first | rfl | simp [Cond.onTables, Cond.keeps, Cond.steady])) hini)
  obtain ⟨hx, hb, hml, ho, -⟩ := S
  have hPc := hp.2
  intro T hT X
  subst hg
  have hpl : e.platform.magicAccessors = ({} : Platform).magicAccessors := by rw [X.admits.platform]
  obtain ⟨mk, methM, cM, kP, vm₁, hnamed, hmethM, hcodeM, -, hlocalsM, -, hkP, -, hW₁, hstep₁⟩ := Steps.initColdArgsNest (e := e) X.here hx X.warmed hpl ho hy1 hy hl hinst hcode (f := g) rfl (fun sig h => hn.trans (hlen sig h)) hstack (by rw [hb]; exact hdg)
  have X₁ := X.noted hW₁
  exact jn_go hT hK X₁ rfl (hsize.trans hml.symm) (by rw [hb]; exact hdg) hW (X₁.named hnamed) (hPc (T.setVm vm₁) hT X₁.warmed) hf (fun tg h => hstep₁ _ fun acts => by rw [doInvoke_state]; exact h)
theorem jn_I (S : CallFix p m c cc nL s args Ts own) (hM : vx_Met l y ws rm Pc Qc XC mc ms free) (cw : CallB R s args own index y bytes maxL none ws rm mc ms n ∧ y.name = "<init>" ∧ (Cond.instanceMethod y).before args s = true) (hp : PreS s H Pc (.ref b :: As))
    (hg : g.method = m) (hn : As.length = n) (hsize : g.locals.size = nL) (hstack : g.stack = As.reverse ++ .ref b :: rest) (hW : 2 * g.monitorRoom + (rest.map fun v => v.category).sum ≤ 8) (hdg : decode cc g.pc = .ok (.invokespecial index, 3)) (hf : cells + mc ≤ R.cells ∧ slots + ms ≤ R.slots) :
    vx_Run p l e R s m args below meth c H locs cells slots mc ms g rest (Qc (Value.ref b :: As).toArray) XC free := by
  have hK := vx_callBack (p := p) (e := e) (below := below) cw.1 hM hp.1
  obtain ⟨⟨-, -, -, -, -, -, hcode, -, hy, hlen, hl⟩, hy1, hinst⟩ := cw
  obtain ⟨hx, hb, hml, ho, -⟩ := S
  have hPc := hp.2
  intro T hT X
  subst hg
  obtain ⟨mk, methM, cM, kP, vm₁, hnamed, hmethM, hcodeM, -, hlocalsM, -, hkP, -, hW₁, hstep₁⟩ := Steps.initColdArgs (e := e) X.here hx X.warmed (by rw [X.admits.platform]) ho hy1 hy hl hinst hcode (f := g) rfl (fun sig h => hn.trans (hlen sig h)) hstack (by rw [hb]; exact hdg)
  have X₁ := X.noted hW₁
  exact jn_go hT hK X₁ rfl (hsize.trans hml.symm) (by rw [hb]; exact hdg) hW (X₁.named hnamed) (hPc (T.setVm vm₁) hT X₁.warmed) hf (fun tg h => hstep₁ _ fun acts => by rw [doInvoke_state]; exact h)
end JNA
end
section
/-! CALLS. jw_C g d mc ms M As h Q: method M, called with As in heap h, ends with Q; d frames, mc cells, ms slots are enough. -/
def jw_Qc (g : jg_G) (Q : jw_O → jh_H → Prop) : Array Value → State → Outcome → State → Prop := fun _ st oc t => ∃ (v : Option jV) (h' : jh_H), oc = .returned (v.map jv) ∧ Q (.inl v) h' ∧ jh_P g h' t.heap ∧ va_F (jg_S g) st t
def jw_Xc (g : jg_G) (Q : jw_O → jh_H → Prop) : String → State → State → Prop := fun E st t => ∃ h', Q (.inr E) h' ∧ jh_P g h' t.heap ∧ va_F (jg_S g) st t
def jw_Pc (g : jg_G) (As : List jV) (h : jh_H) : Array Value → State → Prop := va_Pc (As.map jv) (fun U => jh_P g h U.heap ∧ jw_wd g U)
def jw_ws (M : jw_M) : List Cond := Cond.code M.1 M.2.1 M.2.2.1 M.2.2.2.1 :: jw_big
def jw_C (g : jg_G) (d mc ms : Nat) (M : jw_M) (As : List jV) (h : jh_H) (Q : jw_O → jh_H → Prop) : Prop :=
  vx_Met (jg_l g) M.1 (jw_ws M) { frames := d, cells := mc, slots := ms, locals := 40 * d } (jw_Pc g As h) (jw_Qc g Q) (jw_Xc g Q) mc ms (jg_S g)
def jw_T0 : Code → Prop := fun c => ∀ x ∈ c.exceptionTable.toList, False
theorem jw_blind {g : jg_G} {As : List jV} {h : jh_H} : FrameBlind (jw_Pc g As h) := by
  intro a U fr mk q
  exact ⟨q.1, q.2.1, jw_wd.same (u := U) (U := U.calling fr mk a) rfl rfl q.2.2⟩
theorem jw_good {w : Cond} (h : w ∈ jw_big) : w ∈ jw_big ∧ ((w.onTables && w.keeps) = true ∨ ∃ ty, w = .arrayClass ty) := ⟨h, good_of_word (List.mem_filter.mp h).2⟩
theorem jw_goodIn {M : jw_M} (hcode : Cond.code M.1 M.2.1 M.2.2.1 M.2.2.2.1 ∈ jw_big) : GoodIn jw_big (jw_ws M) := by
  intro w hw
  rcases List.mem_cons.mp hw with rfl | hw
  · exact jw_good hcode
  · exact jw_good hw
/-- the locals at a method's begin -/
def lo_fit : List jV → List (Option jV) → Prop
  | [], ls => ∀ x ∈ ls, x = none
  | v :: r, w :: ls => w = some v ∧ ((jv_c v = 1 ∧ lo_fit r ls) ∨ (jv_c v = 2 ∧ ∃ ls', ls = none :: ls' ∧ lo_fit r ls'))
  | _ :: _, [] => False
theorem lo_fit_ok : ∀ (vs : List jV) (ls : List (Option jV)) (n : Nat), lo_fit vs ls → ∀ i v, ls[i]? = some (some v) → (n + i, jv v) ∈ lv_args n (vs.map jv) := by
  intro vs
  induction vs with
  | nil => intro ls n hf i v hv; have := hf _ (List.mem_of_getElem? hv); cases this
  | cons w r ih =>
    intro ls n hf i v hv
    cases ls with
    | nil => exact absurd hf id
    | cons x ls =>
      obtain ⟨rfl, hf⟩ := hf
      rcases hf with ⟨hc, hf⟩ | ⟨hc, ls', rfl, hf⟩
      · cases i with
        | zero => simp at hv; subst hv; simp [lv_args]
        | succ i =>
          have h1 := ih ls (n + 1) hf i v (by simpa using hv)
          have e : n + (i + 1) = n + 1 + i := by omega
          rw [e]
          simp [lv_args, jv_cat, hc, h1]
      · cases i with
        | zero => simp at hv; subst hv; simp [lv_args]
        | succ i =>
          cases i with
          | zero => simp at hv
          | succ i =>
            have h1 := ih ls' (n + 2) hf i v (by simpa using hv)
            have e : n + (i + 1 + 1) = n + 2 + i := by omega
            rw [e]
            simp [lv_args, jv_cat, hc, h1]
theorem lo_fit_len : ∀ (vs : List jV) (ls : List (Option jV)), lo_fit vs ls → (lg_sl (vs.map jv)).length ≤ ls.length := by
  intro vs
  induction vs with
  | nil => intro ls _; simp [lg_sl]
  | cons w r ih =>
    intro ls hf
    cases ls with
    | nil => exact absurd hf id
    | cons x ls =>
      obtain ⟨rfl, hf⟩ := hf
      have e : lg_sl ((w :: r).map jv) = (if (jv w).category = 2 then [Slot.val (jv w), Slot.second] else [Slot.val (jv w)]) ++ lg_sl (r.map jv) := by simp [lg_sl]
      rw [e, List.length_append, jv_cat]
      rcases hf with ⟨hc, hf⟩ | ⟨hc, ls', rfl, hf⟩
      · have h1 := ih ls hf
        rw [hc, if_neg (by decide), List.length_cons, List.length_cons, List.length_nil]
        omega
      · have h1 := ih ls' hf
        rw [hc, if_pos rfl, List.length_cons, List.length_cons, List.length_cons, List.length_cons, List.length_nil]
        omega
section JWC
variable {g : jg_G} {d : Nat} {M : jw_M} {T : Code → Prop} {pc : Nat} {ls : List (Option jV)} {st : List jV} {h : jh_H} {kc ks : Nat} {Q : jw_O → jh_H → Prop}
theorem jw_intro {mc ms : Nat} {As : List jV} (hy : plainName M.1.cls = true) (htb : ∀ pc x, M.2.2.2.2 pc = some x → decode M.2.1 pc = .ok x) (hll : ls.length = M.2.2.1) (hfit : lo_fit As ls) (hg : (jg_l g).stackTraces = false) (k : jw_J g d M jw_T0 0 ls [] h mc ms Q) : jw_C g d mc ms M As h Q := by
  have hlen : (lg_sl (As.map jv)).length ≤ M.2.2.1 := by rw [← hll]; exact lo_fit_len As ls hfit
  refine vx_ofW (cc := M.2.1) (maxL := M.2.2.1) (ret := M.2.2.2.1) hy rfl ?_
  intro p e s m args below meth c s₁ B hml htab hv
  obtain ⟨rfl, hP, hwd⟩ := hv
  have hts := atoms_spec (ws := jw_ws M) B.pre
  have hl := lv_entry (As.map jv) (n := M.2.2.1) hlen
  rw [lg_entry_eq]
  generalize (lg_sl (As.map jv) ++ List.replicate (M.2.2.1 - (lg_sl (As.map jv)).length) Slot.unset).toArray = arr at hl ⊢
  refine k p e s m (As.map jv).toArray below meth c _ _ s.heap [] 0 0 arr ⟨B.exec, B.bytes, hml, findClass_of_methodNamed B.named, fun w hw => hts w (List.mem_cons_of_mem _ hw), B.returns, B.notSynchronized, (name_of_methodNamed B.named B.method).1, hwd, Nat.le_refl _, Nat.le_refl _, hg, htb⟩ htab ?_ hP va_S.rf ⟨hl.1, hl.2.1, fun i v q => hl.2.2 (i, jv v) (by have := lo_fit_ok As ls 0 hfit i v q; simpa using this)⟩ (by show 0 + mc ≤ mc; omega) (by show 0 + ms ≤ ms; omega)
  refine ⟨fun v h' hq H locs cells slots pc arr hP hS hc hs hrt => ?_, fun E h' hq => ⟨fun H locs cells slots pc arr rest q ce hP hS hc hs hce hcv hcl hcov => ?_, fun H locs cells slots pc arr rest hP hS harr hc hs hrest hts9 hcov hf hlo => ?_⟩⟩
  · have hend : ∀ t : State, t.heap = H → s.WarmedH t.vm → jw_Qc g Q (As.map jv).toArray s (.returned (v.map jv)) t := fun t ht hW => ⟨v, h', rfl, hq, by rw [ht]; exact hP, hS.F ht⟩
    refine vx_ret (W.widen hc hs ?_)
    rcases hrt with ⟨x, rfl, hd, ty, hret, hn⟩ | ⟨x, rfl, hd, hret⟩ | ⟨r, rfl, hd, ty, hret, hty⟩ | ⟨rfl, hd, hret⟩
    · exact W.zret B.exec B.bytes (B.returns.trans hret) hn hend hS.2.2 hd B.notSynchronized
    · exact W.lret B.exec B.bytes (B.returns.trans hret) hend hS.2.2 hd B.notSynchronized
    · exact W.aret B.exec B.bytes (B.returns.trans hret) hty (va_rf_or r) hend hS.2.2 hd B.notSynchronized
    · exact W.vret B.exec B.bytes (B.returns.trans hret) hend hS.2.2 hd B.notSynchronized
  · exact vx_out hcov B.notSynchronized hce hcv hcl (fun t ht hal => ⟨h', hq, by rw [ht]; exact hP, hS.F ht⟩) hS.2.2 hc hs
  · obtain ⟨names, ik, is, ic, n, text, t1, t2, t3, t4, t5, t6, t7, t8, t9, t10, t11, t12, t13⟩ := hts9
    have hbig : ∀ w ∈ jw_big, w.before (As.map jv).toArray s = true := fun w hw => hts w (List.mem_cons_of_mem _ hw)
    obtain ⟨sa, hstr⟩ := jc_con_str hwd.2.2 t7
    refine vx_throwS (is := is) (sa := sa) (text := text) (names := names) B.exec B.bytes hg (findClass_of_methodNamed B.named) t1 t2 (hbig _ t3) (hbig _ t4) hstr (fun w hw => (t5 w hw).elim (hbig w) (fun z => va_Nw.use (jw_nest_tab w z) (hwd.2.2.2.1 w z))) t6 (jc_con_U hwd.2.2) (jc_con_N hwd.2.2) hS harr t8 t9 t10 t11 t12 hcov (by omega) (by omega) hc hs B.notSynchronized (fun t hal hz hq9 => ⟨h', hq, hP.kept hq9, Nat.le_trans hS.1 hz, fun q q1 q2 => by rw [hq9 q (Nat.lt_of_lt_of_le q1 hS.1)]; exact hS.2.1 q q1 q2⟩) hS.2.2 hc hs
/-- behind a call -/
theorem jw_after {p : Program} {e : Env} {s : State} {m : MethodId} {args : Array Value} {below : List Frame} {meth : Method} {c : Code} {R : Room} {Z : State → Prop} {H : Heap} {locs : List Loc} {cells slots mc ms : Nat} {arr : Array Slot} {st0 : List Value} {a : Array Value} {Q' : jw_O → jh_H → Prop}
    (hA : jw_At g M d R p s m args meth c) (hT : T c) (hE : jw_Ex g M R p e s m args below meth c Z Q) (hS : va_S (jg_S g) s.heap H locs) (hl : lo_has arr M.2.2.1 ls) (hc : cells + kc ≤ R.cells) (hs : slots + ks ≤ R.slots) (hmc : mc ≤ kc) (hms : ms ≤ ks)
    (hr : vx_Run p (jg_l g) e R s m args below meth c H locs cells slots mc ms (F0 m pc arr st0) (st.map jv) (jw_Qc g Q' a) (jw_Xc g Q') (jg_S g))
    (kr : ∀ v h', Q' (.inl v) h' → jw_J g d M T (pc + 3) ls (v.toList ++ st) h' (kc - mc) (ks - ms) Q) (kx : ∀ E h', Q' (.inr E) h' → Q (.inr E) h') (hcov : ∀ c, T c → ∀ x ∈ c.exceptionTable.toList, covers x pc = false) :
    W p (jg_l g) e R s m args below meth c H locs cells slots Z (F0 m pc arr st0) := by
  intro T0 hT0 X
  rcases hr T0 hT0 X with ⟨v, st₀, t, T', L, e0, X', hL, e1, e2, hq, go⟩ | ⟨q, st₀, t, T', L, E, ce, e0, X', hL, e1, e2, hq, hce, hcv, hcl, st9⟩
  · obtain ⟨v', h', e3, hq, hP', hF⟩ := hq
    injection e3 with e3
    subst e3
    obtain ⟨-, -, hS'⟩ := vx_keep e0 e1 hS (fun _ _ z => z) (fun _ z => z) hL hF
    obtain ⟨t2, s2, z2⟩ := kr v' h' hq p e s m args below meth c R Z T'.heap (locs ++ L) (cells + mc) (slots + ms) arr hA hT hE (by rw [e1]; exact hP') hS' hl (by omega) (by omega) T' rfl X'
    have e4 : (v'.toList ++ st).map jv = (v'.map jv).toList ++ st.map jv := by cases v' <;> rfl
    rw [e4] at s2
    exact ⟨t2, go t2 s2, z2⟩
  · obtain ⟨h', hq, hP', hF⟩ := hq
    obtain ⟨-, -, hS'⟩ := vx_keep e0 e1 hS (fun _ _ z => z) (fun _ z => z) hL hF
    obtain ⟨t2, s2, z2⟩ := (hE.2 E h' (kx E h' hq)).1 T'.heap (locs ++ L) (cells + mc) (slots + ms) pc arr (st.map jv) q ce (by rw [e1]; exact hP') hS' (by omega) (by omega) (by rw [e1]; exact hce) hcv hcl (hcov c hT) T' rfl X'
    exact ⟨t2, st9.trans s2, z2⟩
/-- what a call needs of the callee -/
def jl_m (M' : jw_M) (n : Nat) : Prop := Cond.code M'.1 M'.2.1 M'.2.2.1 M'.2.2.2.1 ∈ jw_big ∧ Cond.initialized M'.1.cls ∈ jw_big ∧ (M'.1.cls ≠ "java/lang/invoke/MethodHandle" ∧ M'.1.cls ≠ "java/lang/invoke/VarHandle" ∧ (parseMethodDescriptor M'.1.desc).map (fun d => d.parameters.length) = some n) ∧ M'.2.2.1 ≤ 21
def jl_k (own : String) (idx : Nat) (y : MethodName) : Prop := Cond.methodLink own idx y ∈ jw_big ∨ ∃ host, Cond.methodLinkNest own idx y host ∈ jw_nest
theorem jw_pre {p : Program} {s : State} {m : MethodId} {args : Array Value} {meth : Method} {c : Code} {R : Room} {H : Heap} {locs : List Loc} (hA : jw_At g M d R p s m args meth c) (hP : jh_P g h H) (hS : va_S (jg_S g) s.heap H locs) (As : List jV) : ∀ U : State, U.heap = H → s.WarmedH U.vm → jw_Pc g As h (As.map jv).toArray U := by
  obtain ⟨hx, hb, hml, hown, hts, hr, hlk, hnm, hwd, hdf, hdl, hst, hok⟩ := hA
  intro U hU hW
  exact ⟨rfl, by rw [hU]; exact hP, jw_wd.moved hW hwd (by rw [hU]; exact hS.1) (fun q q1 q2 => by rw [hU]; exact hS.2.1 q q1 q2)⟩
theorem jw_cb {M' : jw_M} {d' n idx mc ms : Nat} {R : Room} {s : State} {args : Array Value} (hts : ∀ w ∈ jw_big, w.before args s = true) (hm : jl_m M' n) (hl : Cond.methodLink M.1.cls idx M'.1 ∈ jw_big) (hd1 : d' + 1 ≤ d) (hdf : d ≤ R.frames) (hdl : 40 * d ≤ R.locals) : CallB R s args M.1.cls idx M'.1 M'.2.1 M'.2.2.1 M'.2.2.2.1 (jw_ws M') { frames := d', cells := mc, slots := ms, locals := 40 * d' } mc ms n :=
  callB_of n hts (jw_goodIn hm.1) rfl rfl rfl (hts _ hm.2.1) (hts _ hl) hm.2.2.1 ⟨by show d' + 1 ≤ _; omega, by show 8 + (M'.2.2.1 + 11) + 40 * d' ≤ _; have := hm.2.2.2; omega⟩
theorem jw_cn {M' : jw_M} {d' n idx mc ms : Nat} {host : String} {R : Room} {s : State} {args : Array Value} (hts : ∀ w ∈ jw_big, w.before args s = true) (hm : jl_m M' n) (hl : va_Nw (.methodLinkNest M.1.cls idx M'.1 host) s) (hd1 : d' + 1 ≤ d) (hdf : d ≤ R.frames) (hdl : 40 * d ≤ R.locals) : va_CN R s args M.1.cls idx M'.1 host M'.2.1 M'.2.2.1 M'.2.2.2.1 (jw_ws M') { frames := d', cells := mc, slots := ms, locals := 40 * d' } mc ms n :=
  va_cnB n hts (jw_goodIn hm.1) rfl rfl rfl hl (hts _ hm.2.1) hm.2.2.1 ⟨by show d' + 1 ≤ _; omega, by show 8 + (M'.2.2.1 + 11) + 40 * d' ≤ _; have := hm.2.2.2; omega⟩
theorem jw_callV {M' : jw_M} {d' n idx mc ms a ci : Nat} {As : List jV} {Q' : jw_O → jh_H → Prop} (hd : M.2.2.2.2 pc = some (.invokevirtual idx, 3)) (hm : jl_m M' n) (hk : jl_k M.1.cls idx M'.1) (hin : Cond.instanceMethod M'.1 ∈ jw_big) (hse : Cond.selects M'.1.cls M'.1 M'.1 ∈ jw_big) (hd1 : d' + 1 ≤ d) (hcq : jc_ok ci) (hcn : (jc_q ci).1 = M'.1.cls) (ho : jh_O h a ci) (hn : As.length = n) (hst0 : ((st.map jv).map fun v => v.category).sum ≤ 8) (hmc : mc ≤ kc) (hms : ms ≤ ks) (hcov : ∀ c, T c → ∀ x ∈ c.exceptionTable.toList, covers x pc = false)
    (hC : jw_C g d' mc ms M' (.inr (.inr (some a)) :: As) h Q') (kr : ∀ v h', Q' (.inl v) h' → jw_J g d M T (pc + 3) ls (v.toList ++ st) h' (kc - mc) (ks - ms) Q) (kx : ∀ E h', Q' (.inr E) h' → Q (.inr E) h') : jw_J g d M T pc ls (As.reverse ++ .inr (.inr (some a)) :: st) h kc ks Q := by
  intro p e s m args below meth c R Z H locs cells slots arr hA hT hE hP hS hl hc hs
  obtain ⟨hx, hb, hml, hown, hts, hr, hlk, hnm, hwd, hdf, hdl, hst, hok⟩ := id hA
  obtain ⟨q0, he⟩ := jh_at (g := g) ho.1
  rw [jh_E_O hcq.2.1 ho] at he
  have hrec := va_recv hwd.1 hP.1 hcq.1 he
  rw [hcn] at hrec
  have hpre := jw_pre hA hP hS (.inr (.inr (some a)) :: As)
  refine jw_after hA hT hE hS hl hc hs hmc hms ?_ kr kx hcov (a := (Value.ref a :: As.map jv).toArray)
  rcases hk with hk | ⟨host, hk⟩
  · exact vx_runV (nL := M.2.2.1) (cc := M.2.1) ⟨hx, hb, hml, hown, hts⟩ hC ⟨jw_cb hts hm hk hd1 hdf hdl, hts _ hin, hts _ hse⟩ ⟨jw_blind, hrec, hpre⟩ rfl ((List.length_map _).trans hn) hl.1 (by simp [jv, va_rf]) (lv_room hst0) (hok _ _ hd) ⟨by omega, by omega⟩
  · exact jn_V (nL := M.2.2.1) (cc := M.2.1) ⟨hx, hb, hml, hown, hts⟩ hC ⟨jw_cn hts hm (hwd.2.2.2.1 _ hk) hd1 hdf hdl, hts _ hin, hts _ hse⟩ ⟨jw_blind, hrec, hpre⟩ rfl ((List.length_map _).trans hn) hl.1 (by simp [jv, va_rf]) (lv_room hst0) (hok _ _ hd) ⟨by omega, by omega⟩
theorem jw_callS {M' : jw_M} {d' n idx mc ms : Nat} {As : List jV} {Q' : jw_O → jh_H → Prop} (hd : M.2.2.2.2 pc = some (.invokestatic idx, 3)) (hm : jl_m M' n) (hk : jl_k M.1.cls idx M'.1) (hin : Cond.static M'.1 ∈ jw_big) (hd1 : d' + 1 ≤ d) (hn : As.length = n) (hst0 : ((st.map jv).map fun v => v.category).sum ≤ 8) (hmc : mc ≤ kc) (hms : ms ≤ ks) (hcov : ∀ c, T c → ∀ x ∈ c.exceptionTable.toList, covers x pc = false)
    (hC : jw_C g d' mc ms M' As h Q') (kr : ∀ v h', Q' (.inl v) h' → jw_J g d M T (pc + 3) ls (v.toList ++ st) h' (kc - mc) (ks - ms) Q) (kx : ∀ E h', Q' (.inr E) h' → Q (.inr E) h') : jw_J g d M T pc ls (As.reverse ++ st) h kc ks Q := by
  intro p e s m args below meth c R Z H locs cells slots arr hA hT hE hP hS hl hc hs
  obtain ⟨hx, hb, hml, hown, hts, hr, hlk, hnm, hwd, hdf, hdl, hst, hok⟩ := id hA
  have hpre := jw_pre hA hP hS As
  refine jw_after hA hT hE hS hl hc hs hmc hms ?_ kr kx hcov (a := (As.map jv).toArray)
  rcases hk with hk | ⟨host, hk⟩
  · exact vx_runS (nL := M.2.2.1) (cc := M.2.1) ⟨hx, hb, hml, hown, hts⟩ hC ⟨jw_cb hts hm hk hd1 hdf hdl, hts _ hin⟩ ⟨jw_blind, hpre⟩ rfl ((List.length_map _).trans hn) hl.1 (by simp [jv, va_rf]) (lv_room hst0) (hok _ _ hd) ⟨by omega, by omega⟩
  · exact jn_S (nL := M.2.2.1) (cc := M.2.1) ⟨hx, hb, hml, hown, hts⟩ hC ⟨jw_cn hts hm (hwd.2.2.2.1 _ hk) hd1 hdf hdl, hts _ hin, trivial⟩ ⟨jw_blind, hpre⟩ rfl ((List.length_map _).trans hn) hl.1 (by simp [jv, va_rf]) (lv_room hst0) (hok _ _ hd) ⟨by omega, by omega⟩
theorem jw_callI {M' : jw_M} {d' n idx mc ms a : Nat} {As : List jV} {Q' : jw_O → jh_H → Prop} (hd : M.2.2.2.2 pc = some (.invokespecial idx, 3)) (hm : jl_m M' n) (hk : jl_k M.1.cls idx M'.1) (hin : Cond.instanceMethod M'.1 ∈ jw_big) (hname : M'.1.name = "<init>") (hret : M'.2.2.2.1 = none) (hd1 : d' + 1 ≤ d) (hn : As.length = n) (hst0 : ((st.map jv).map fun v => v.category).sum ≤ 8) (hmc : mc ≤ kc) (hms : ms ≤ ks) (hcov : ∀ c, T c → ∀ x ∈ c.exceptionTable.toList, covers x pc = false)
    (hC : jw_C g d' mc ms M' (.inr (.inr (some a)) :: As) h Q') (kr : ∀ v h', Q' (.inl v) h' → jw_J g d M T (pc + 3) ls (v.toList ++ st) h' (kc - mc) (ks - ms) Q) (kx : ∀ E h', Q' (.inr E) h' → Q (.inr E) h') : jw_J g d M T pc ls (As.reverse ++ .inr (.inr (some a)) :: st) h kc ks Q := by
  intro p e s m args below meth c R Z H locs cells slots arr hA hT hE hP hS hl hc hs
  obtain ⟨hx, hb, hml, hown, hts, hr, hlk, hnm, hwd, hdf, hdl, hst, hok⟩ := id hA
  have hpre := jw_pre hA hP hS (.inr (.inr (some a)) :: As)
  refine jw_after hA hT hE hS hl hc hs hmc hms ?_ kr kx hcov (a := (Value.ref a :: As.map jv).toArray)
  rcases hk with hk | ⟨host, hk⟩
  · have cb := jw_cb (mc := mc) (ms := ms) hts hm hk hd1 hdf hdl
    rw [hret] at cb
    exact jn_I (nL := M.2.2.1) (cc := M.2.1) ⟨hx, hb, hml, hown, hts⟩ hC ⟨cb, hname, hts _ hin⟩ ⟨jw_blind, hpre⟩ rfl ((List.length_map _).trans hn) hl.1 (by simp [jv, va_rf]) (lv_room hst0) (hok _ _ hd) ⟨by omega, by omega⟩
  · have cb := jw_cn (mc := mc) (ms := ms) hts hm (hwd.2.2.2.1 _ hk) hd1 hdf hdl
    rw [hret] at cb
    exact jn_IN (nL := M.2.2.1) (cc := M.2.1) ⟨hx, hb, hml, hown, hts⟩ hC ⟨cb, hname, hts _ hin⟩ ⟨jw_blind, hpre⟩ rfl ((List.length_map _).trans hn) hl.1 (by simp [jv, va_rf]) (lv_room hst0) (hok _ _ hd) ⟨by omega, by omega⟩
theorem jw_throw {E : String} (hts9 : jw_ts M pc E) (h10 : 10 ≤ d) (hrest : ((st.map jv).map fun v => v.category).sum ≤ 8) (h1 : 1 ≤ kc) (h2 : 6 ≤ ks) (hcov : ∀ c, T c → ∀ x ∈ c.exceptionTable.toList, covers x (pc + 9) = false) (hq : Q (.inr E) h) : jw_J g d M T pc ls st h kc ks Q := by
  intro p e s m args below meth c R Z H locs cells slots arr hA hT hE hP hS hl hc hs
  obtain ⟨hx, hb, hml, hown, hts, hr, hlk, hnm, hwd, hdf, hdl, hst, hok⟩ := id hA
  exact (hE.2 E h hq).2 H locs cells slots pc arr (st.map jv) hP hS (hl.1.trans hml.symm) (by omega) (by omega) hrest hts9 (hcov c hT) (by omega) (by omega)
theorem jw_C.mono {mc ms : Nat} {As : List jV} {Q' : jw_O → jh_H → Prop} (k : jw_C g d mc ms M As h Q') (hq : ∀ o h', Q' o h' → Q o h') : jw_C g d mc ms M As h Q := by
  refine MetFree.mono k (fun _ _ z => z) (fun _ _ _ _ _ z => z) (fun a st o t _ z => ?_)
  rcases z with ⟨⟨v, h', e, q, r⟩, z⟩ | ⟨q, e, E, ce, L, ⟨h', q2, r⟩, z⟩
  · exact Or.inl ⟨⟨v, h', e, hq _ _ q, r⟩, z⟩
  · exact Or.inr ⟨q, e, E, ce, L, ⟨h', hq _ _ q2, r⟩, z⟩
end JWC
end
section
/-! METHODS, by program: name, code, locals, answer, instructions; what the tables say of each; the links. -/
def jt_b (B : List (Instr × Nat)) (pc : Nat) : Option (Instr × Nat) := match B with
  | [] => none
  | x :: r => if pc = 0 then some x else if pc < x.2 then none else jt_b r (pc - x.2)
def jt_c (cc : ByteArray) (B : List (Instr × Nat)) (pc : Nat) : Bool := match B with
  | [] => true
  | x :: r => decide (decode cc pc = .ok x) && jt_c cc r (pc + x.2)
theorem jt_ok {cc : ByteArray} : ∀ (B : List (Instr × Nat)) (a : Nat), jt_c cc B a = true → ∀ pc x, jt_b B pc = some x → decode cc (a + pc) = .ok x := by
  intro B
  induction B with
  | nil => intro a _ pc x hx; cases hx
  | cons y r ih =>
    intro a h pc x hx
    rw [jt_c, Bool.and_eq_true] at h
    rw [jt_b] at hx
    by_cases h0 : pc = 0
    · rw [if_pos h0] at hx
      cases hx
      rw [h0]
      exact of_decide_eq_true h.1
    · rw [if_neg h0] at hx
      by_cases h1 : pc < y.2
      · rw [if_pos h1] at hx; cases hx
      · rw [if_neg h1] at hx
        have h2 := ih (a + y.2) h.2 (pc - y.2) x hx
        have e : a + y.2 + (pc - y.2) = a + pc := by omega
        rw [e] at h2
        exact h2
theorem jt_k {cc : ByteArray} {B : List (Instr × Nat)} (h : jt_c cc B 0 = true) : ∀ pc x, jt_b B pc = some x → decode cc pc = .ok x := fun pc x hx => by
  have := jt_ok B 0 h pc x hx
  rwa [Nat.zero_add] at this
theorem jc_o0 : jc_ok 0 := ⟨rfl, by decide, fun w hw => by
  have h := List.all_eq_true.mp (show (u_ws (jc_q 0).1 (jc_q 0).2.1 (jc_q 0).2.2).all (fun w => decide (w ∈ tables_1) && goodWord w) = true by decide +kernel) w hw
  have h2 := Bool.and_eq_true_iff.mp h
  exact List.mem_filter.mpr ⟨List.mem_append_right _ (of_decide_eq_true h2.1), h2.2⟩, by decide +kernel, by decide +kernel⟩
theorem jc_o1 : jc_ok 1 := ⟨rfl, by decide, fun w hw => by
  have h := List.all_eq_true.mp (show (u_ws (jc_q 1).1 (jc_q 1).2.1 (jc_q 1).2.2).all (fun w => decide (w ∈ tables_1) && goodWord w) = true by decide +kernel) w hw
  have h2 := Bool.and_eq_true_iff.mp h
  exact List.mem_filter.mpr ⟨List.mem_append_right _ (of_decide_eq_true h2.1), h2.2⟩, by decide +kernel, by decide +kernel⟩
theorem jc_o2 : jc_ok 2 := ⟨rfl, by decide, fun w hw => by
  have h := List.all_eq_true.mp (show (u_ws (jc_q 2).1 (jc_q 2).2.1 (jc_q 2).2.2).all (fun w => decide (w ∈ tables_1) && goodWord w) = true by decide +kernel) w hw
  have h2 := Bool.and_eq_true_iff.mp h
  exact List.mem_filter.mpr ⟨List.mem_append_right _ (of_decide_eq_true h2.1), h2.2⟩, by decide +kernel, by decide +kernel⟩
theorem jc_o3 : jc_ok 3 := ⟨rfl, by decide, fun w hw => by
  have h := List.all_eq_true.mp (show (u_ws (jc_q 3).1 (jc_q 3).2.1 (jc_q 3).2.2).all (fun w => decide (w ∈ tables_1) && goodWord w) = true by decide +kernel) w hw
  have h2 := Bool.and_eq_true_iff.mp h
  exact List.mem_filter.mpr ⟨List.mem_append_right _ (of_decide_eq_true h2.1), h2.2⟩, by decide +kernel, by decide +kernel⟩
theorem jc_o4 : jc_ok 4 := ⟨rfl, by decide, fun w hw => by
  have h := List.all_eq_true.mp (show (u_ws (jc_q 4).1 (jc_q 4).2.1 (jc_q 4).2.2).all (fun w => decide (w ∈ tables_1) && goodWord w) = true by decide +kernel) w hw
  have h2 := Bool.and_eq_true_iff.mp h
  exact List.mem_filter.mpr ⟨List.mem_append_right _ (of_decide_eq_true h2.1), h2.2⟩, by decide +kernel, by decide +kernel⟩
theorem jc_o5 : jc_ok 5 := ⟨rfl, by decide, fun w hw => by
  have h := List.all_eq_true.mp (show (u_ws (jc_q 5).1 (jc_q 5).2.1 (jc_q 5).2.2).all (fun w => decide (w ∈ tables_1) && goodWord w) = true by decide +kernel) w hw
  have h2 := Bool.and_eq_true_iff.mp h
  exact List.mem_filter.mpr ⟨List.mem_append_right _ (of_decide_eq_true h2.1), h2.2⟩, by decide +kernel, by decide +kernel⟩
theorem jc_o6 : jc_ok 6 := ⟨rfl, by decide, fun w hw => by
  have h := List.all_eq_true.mp (show (u_ws (jc_q 6).1 (jc_q 6).2.1 (jc_q 6).2.2).all (fun w => decide (w ∈ tables_1) && goodWord w) = true by decide +kernel) w hw
  have h2 := Bool.and_eq_true_iff.mp h
  exact List.mem_filter.mpr ⟨List.mem_append_right _ (of_decide_eq_true h2.1), h2.2⟩, by decide +kernel, by decide +kernel⟩
theorem jc_o7 : jc_ok 7 := ⟨rfl, by decide, fun w hw => by
  have h := List.all_eq_true.mp (show (u_ws (jc_q 7).1 (jc_q 7).2.1 (jc_q 7).2.2).all (fun w => decide (w ∈ tables_1) && goodWord w) = true by decide +kernel) w hw
  have h2 := Bool.and_eq_true_iff.mp h
  exact List.mem_filter.mpr ⟨List.mem_append_right _ (of_decide_eq_true h2.1), h2.2⟩, by decide +kernel, by decide +kernel⟩
theorem jc_o8 : jc_ok 8 := ⟨rfl, by decide, fun w hw => by
  have h := List.all_eq_true.mp (show (u_ws (jc_q 8).1 (jc_q 8).2.1 (jc_q 8).2.2).all (fun w => decide (w ∈ tables_1) && goodWord w) = true by decide +kernel) w hw
  have h2 := Bool.and_eq_true_iff.mp h
  exact List.mem_filter.mpr ⟨List.mem_append_right _ (of_decide_eq_true h2.1), h2.2⟩, by decide +kernel, by decide +kernel⟩
def m_E_init : jw_M := (({ cls := "TemplateEngine", name := "<init>", desc := "()V" } : Jvm.MethodName), prog_1_method_1_code, 1, (Option.none : Option Jvm.ClassFile.FieldType), jt_b [(.aload_n 0, 1), (.invokespecial 3, 3), (.aload_n 0, 1), (.new 9, 3), (.dup, 1), (.sipush 200, 3), (.invokespecial 11, 3), (.putfield 14, 3), (.aload_n 0, 1), (.bipush 60, 2), (.anewarray 18, 3), (.putfield 20, 3), (.aload_n 0, 1), (.iconst 4, 1), (.anewarray 24, 3), (.putfield 26, 3), (.aload_n 0, 1), (.iconst (-1), 1), (.putfield 30, 3), (.aload_n 0, 1), (.new 34, 3), (.dup, 1), (.invokespecial 36, 3), (.putfield 37, 3), (.return_, 1)])
def m_E_type : jw_M := (({ cls := "TemplateEngine", name := "type", desc := "(I)I" } : Jvm.MethodName), prog_1_method_2_code, 2, (Option.some Jvm.ClassFile.FieldType.int), jt_b [(.aload_n 0, 1), (.dup, 1), (.getfield 41, 3), (.iconst 1, 1), (.iadd, 1), (.putfield 41, 3), (.iload_n 1, 1), (.ifCond .lt 9, 3), (.iload_n 1, 1), (.bipush 127, 2), (.if_icmp .le 13, 3), (.new 44, 3), (.dup, 1), (.ldc 46, 2), (.invokespecial 48, 3), (.athrow, 1), (.aload_n 0, 1), (.getfield 14, 3), (.getfield 51, 3), (.sipush 200, 3), (.if_icmp .lt 13, 3), (.new 54, 3), (.dup, 1), (.ldc 56, 2), (.invokespecial 58, 3), (.athrow, 1), (.aload_n 0, 1), (.getfield 14, 3), (.iload_n 1, 1), (.i2c, 1), (.invokevirtual 59, 3), (.aload_n 0, 1), (.dup, 1), (.getfield 41, 3), (.iconst 1, 1), (.isub, 1), (.putfield 41, 3), (.aload_n 0, 1), (.getfield 14, 3), (.getfield 51, 3), (.ireturn, 1)])
def m_E_number : jw_M := (({ cls := "TemplateEngine", name := "number", desc := "(I)I" } : Jvm.MethodName), prog_1_method_3_code, 2, (Option.some Jvm.ClassFile.FieldType.int), jt_b [(.aload_n 0, 1), (.dup, 1), (.getfield 41, 3), (.iconst 1, 1), (.iadd, 1), (.putfield 41, 3), (.aload_n 0, 1), (.getfield 63, 3), (.bipush 60, 2), (.if_icmp .lt 13, 3), (.new 54, 3), (.dup, 1), (.ldc 66, 2), (.invokespecial 58, 3), (.athrow, 1), (.aload_n 0, 1), (.dup, 1), (.getfield 41, 3), (.iconst 1, 1), (.isub, 1), (.putfield 41, 3), (.aload_n 0, 1), (.iload_n 1, 1), (.invokestatic 68, 3), (.invokevirtual 72, 3), (.ireturn, 1)])
def m_E_text : jw_M := (({ cls := "TemplateEngine", name := "text", desc := "()I" } : Jvm.MethodName), prog_1_method_4_code, 2, (Option.some Jvm.ClassFile.FieldType.int), jt_b [(.aload_n 0, 1), (.dup, 1), (.getfield 41, 3), (.iconst 1, 1), (.iadd, 1), (.putfield 41, 3), (.aload_n 0, 1), (.getfield 63, 3), (.bipush 60, 2), (.if_icmp .lt 13, 3), (.new 54, 3), (.dup, 1), (.ldc 66, 2), (.invokespecial 58, 3), (.athrow, 1), (.aload_n 0, 1), (.dup, 1), (.getfield 41, 3), (.iconst 1, 1), (.isub, 1), (.putfield 41, 3), (.aload_n 0, 1), (.getfield 14, 3), (.iconst 0, 1), (.aload_n 0, 1), (.getfield 14, 3), (.getfield 51, 3), (.invokevirtual 76, 3), (.invokestatic 80, 3), (.astore_n 1, 1), (.aload_n 0, 1), (.getfield 14, 3), (.invokevirtual 84, 3), (.aload_n 0, 1), (.aload_n 1, 1), (.invokevirtual 72, 3), (.ireturn, 1)])
def m_E_list : jw_M := (({ cls := "TemplateEngine", name := "list", desc := "()I" } : Jvm.MethodName), prog_1_method_5_code, 1, (Option.some Jvm.ClassFile.FieldType.int), jt_b [(.aload_n 0, 1), (.dup, 1), (.getfield 41, 3), (.iconst 1, 1), (.iadd, 1), (.putfield 41, 3), (.aload_n 0, 1), (.getfield 63, 3), (.bipush 60, 2), (.if_icmp .lt 13, 3), (.new 54, 3), (.dup, 1), (.ldc 66, 2), (.invokespecial 58, 3), (.athrow, 1), (.aload_n 0, 1), (.dup, 1), (.getfield 41, 3), (.iconst 1, 1), (.isub, 1), (.putfield 41, 3), (.aload_n 0, 1), (.iconst 2, 1), (.invokestatic 87, 3), (.invokevirtual 72, 3), (.ireturn, 1)])
def m_E_map : jw_M := (({ cls := "TemplateEngine", name := "map", desc := "()I" } : Jvm.MethodName), prog_1_method_6_code, 1, (Option.some Jvm.ClassFile.FieldType.int), jt_b [(.aload_n 0, 1), (.dup, 1), (.getfield 41, 3), (.iconst 1, 1), (.iadd, 1), (.putfield 41, 3), (.aload_n 0, 1), (.getfield 63, 3), (.bipush 60, 2), (.if_icmp .lt 13, 3), (.new 54, 3), (.dup, 1), (.ldc 66, 2), (.invokespecial 58, 3), (.athrow, 1), (.aload_n 0, 1), (.dup, 1), (.getfield 41, 3), (.iconst 1, 1), (.isub, 1), (.putfield 41, 3), (.aload_n 0, 1), (.iconst 3, 1), (.invokestatic 87, 3), (.invokevirtual 72, 3), (.ireturn, 1)])
def m_E_add : jw_M := (({ cls := "TemplateEngine", name := "add", desc := "(II)I" } : Jvm.MethodName), prog_1_method_7_code, 4, (Option.some Jvm.ClassFile.FieldType.int), jt_b [(.aload_n 0, 1), (.dup, 1), (.getfield 41, 3), (.iconst 1, 1), (.iadd, 1), (.putfield 41, 3), (.aload_n 0, 1), (.iload_n 1, 1), (.invokevirtual 90, 3), (.ifCond .eq 11, 3), (.aload_n 0, 1), (.iload_n 2, 1), (.invokevirtual 90, 3), (.ifCond .ne 13, 3), (.new 94, 3), (.dup, 1), (.ldc 96, 2), (.invokespecial 98, 3), (.athrow, 1), (.aload_n 0, 1), (.getfield 20, 3), (.iload_n 1, 1), (.aaload, 1), (.astore_n 3, 1), (.aload_n 3, 1), (.getfield 99, 3), (.iconst 2, 1), (.if_icmp .ne 17, 3), (.aload_n 0, 1), (.aload_n 3, 1), (.aload_n 0, 1), (.getfield 20, 3), (.iload_n 2, 1), (.aaload, 1), (.invokevirtual 102, 3), (.ifCond .eq 13, 3), (.new 44, 3), (.dup, 1), (.ldc 106, 2), (.invokespecial 48, 3), (.athrow, 1), (.aload_n 3, 1), (.getfield 108, 3), (.bipush 10, 2), (.if_icmp .lt 13, 3), (.new 54, 3), (.dup, 1), (.ldc 111, 2), (.invokespecial 58, 3), (.athrow, 1), (.aload_n 3, 1), (.aload_n 3, 1), (.getfield 108, 3), (.lconst 0, 1), (.aload_n 0, 1), (.getfield 20, 3), (.iload_n 2, 1), (.aaload, 1), (.invokevirtual 113, 3), (.aload_n 0, 1), (.dup, 1), (.getfield 41, 3), (.iconst 1, 1), (.isub, 1), (.putfield 41, 3), (.aload_n 3, 1), (.getfield 108, 3), (.ireturn, 1)])
def m_E_put : jw_M := (({ cls := "TemplateEngine", name := "put", desc := "(II)I" } : Jvm.MethodName), prog_1_method_8_code, 7, (Option.some Jvm.ClassFile.FieldType.int), jt_b [(.aload_n 0, 1), (.dup, 1), (.getfield 41, 3), (.iconst 1, 1), (.iadd, 1), (.putfield 41, 3), (.aload_n 0, 1), (.iload_n 1, 1), (.invokevirtual 90, 3), (.ifCond .eq 11, 3), (.aload_n 0, 1), (.iload_n 2, 1), (.invokevirtual 90, 3), (.ifCond .ne 13, 3), (.new 94, 3), (.dup, 1), (.ldc 96, 2), (.invokespecial 98, 3), (.athrow, 1), (.aload_n 0, 1), (.getfield 20, 3), (.iload_n 1, 1), (.aaload, 1), (.astore_n 3, 1), (.aload_n 0, 1), (.getfield 14, 3), (.iconst 0, 1), (.aload_n 0, 1), (.getfield 14, 3), (.getfield 51, 3), (.invokevirtual 117, 3), (.lstore 4, 2), (.aload_n 3, 1), (.getfield 99, 3), (.iconst 3, 1), (.if_icmp .ne 24, 3), (.lload 4, 2), (.lconst 0, 1), (.lcmp, 1), (.ifCond .eq 17, 3), (.aload_n 0, 1), (.aload_n 3, 1), (.aload_n 0, 1), (.getfield 20, 3), (.iload_n 2, 1), (.aaload, 1), (.invokevirtual 102, 3), (.ifCond .eq 13, 3), (.new 44, 3), (.dup, 1), (.ldc 121, 2), (.invokespecial 48, 3), (.athrow, 1), (.aload_n 3, 1), (.lload 4, 2), (.invokevirtual 123, 3), (.istore 6, 2), (.iload 6, 2), (.bipush 10, 2), (.if_icmp .lt 13, 3), (.new 54, 3), (.dup, 1), (.ldc 127, 2), (.invokespecial 58, 3), (.athrow, 1), (.aload_n 3, 1), (.iload 6, 2), (.lload 4, 2), (.aload_n 0, 1), (.getfield 20, 3), (.iload_n 2, 1), (.aaload, 1), (.invokevirtual 113, 3), (.aload_n 0, 1), (.getfield 14, 3), (.invokevirtual 84, 3), (.aload_n 0, 1), (.dup, 1), (.getfield 41, 3), (.iconst 1, 1), (.isub, 1), (.putfield 41, 3), (.aload_n 3, 1), (.getfield 108, 3), (.ireturn, 1)])
def m_E_compile : jw_M := (({ cls := "TemplateEngine", name := "compile", desc := "(I)I" } : Jvm.MethodName), prog_1_method_9_code, 3, (Option.some Jvm.ClassFile.FieldType.int), jt_b [(.aload_n 0, 1), (.dup, 1), (.getfield 41, 3), (.iconst 1, 1), (.iadd, 1), (.putfield 41, 3), (.iload_n 1, 1), (.ifCond .lt 8, 3), (.iload_n 1, 1), (.iconst 4, 1), (.if_icmp .lt 13, 3), (.new 129, 3), (.dup, 1), (.ldc 131, 2), (.invokespecial 133, 3), (.athrow, 1), (.new 134, 3), (.dup, 1), (.aload_n 0, 1), (.getfield 14, 3), (.iconst 0, 1), (.aload_n 0, 1), (.getfield 14, 3), (.getfield 51, 3), (.invokevirtual 76, 3), (.invokespecial 136, 3), (.astore_n 2, 1), (.aload_n 0, 1), (.getfield 14, 3), (.invokevirtual 84, 3), (.aload_n 2, 1), (.invokevirtual 139, 3), (.aload_n 0, 1), (.aload_n 2, 1), (.getfield 142, 3), (.putfield 30, 3), (.aload_n 0, 1), (.getfield 30, 3), (.iconst (-1), 1), (.if_icmp .eq 13, 3), (.new 44, 3), (.dup, 1), (.ldc 143, 2), (.invokespecial 48, 3), (.athrow, 1), (.aload_n 0, 1), (.getfield 26, 3), (.iload_n 1, 1), (.aload_n 2, 1), (.getfield 145, 3), (.aastore, 1), (.aload_n 0, 1), (.dup, 1), (.getfield 41, 3), (.iconst 1, 1), (.isub, 1), (.putfield 41, 3), (.aload_n 2, 1), (.getfield 149, 3), (.ireturn, 1)])
def m_E_errorAt : jw_M := (({ cls := "TemplateEngine", name := "errorAt", desc := "()I" } : Jvm.MethodName), prog_1_method_10_code, 1, (Option.some Jvm.ClassFile.FieldType.int), jt_b [(.aload_n 0, 1), (.getfield 30, 3), (.ireturn, 1)])
def m_E_render : jw_M := (({ cls := "TemplateEngine", name := "render", desc := "(II)I" } : Jvm.MethodName), prog_1_method_11_code, 3, (Option.some Jvm.ClassFile.FieldType.int), jt_b [(.aload_n 0, 1), (.dup, 1), (.getfield 41, 3), (.iconst 1, 1), (.iadd, 1), (.putfield 41, 3), (.iload_n 1, 1), (.ifCond .lt 8, 3), (.iload_n 1, 1), (.iconst 4, 1), (.if_icmp .lt 13, 3), (.new 129, 3), (.dup, 1), (.ldc 131, 2), (.invokespecial 133, 3), (.athrow, 1), (.aload_n 0, 1), (.getfield 26, 3), (.iload_n 1, 1), (.aaload, 1), (.ifnull 11, 3), (.aload_n 0, 1), (.iload_n 2, 1), (.invokevirtual 90, 3), (.ifCond .ne 13, 3), (.new 94, 3), (.dup, 1), (.ldc 152, 2), (.invokespecial 98, 3), (.athrow, 1), (.aload_n 0, 1), (.getfield 37, 3), (.aload_n 0, 1), (.getfield 26, 3), (.aload_n 0, 1), (.getfield 26, 3), (.iload_n 1, 1), (.aaload, 1), (.aload_n 0, 1), (.getfield 20, 3), (.iload_n 2, 1), (.aaload, 1), (.invokevirtual 154, 3), (.aload_n 0, 1), (.dup, 1), (.getfield 41, 3), (.iconst 1, 1), (.isub, 1), (.putfield 41, 3), (.aload_n 0, 1), (.getfield 37, 3), (.getfield 158, 3), (.getfield 51, 3), (.ireturn, 1)])
def m_E_at : jw_M := (({ cls := "TemplateEngine", name := "at", desc := "(I)I" } : Jvm.MethodName), prog_1_method_12_code, 2, (Option.some Jvm.ClassFile.FieldType.int), jt_b [(.aload_n 0, 1), (.dup, 1), (.getfield 41, 3), (.iconst 1, 1), (.iadd, 1), (.putfield 41, 3), (.iload_n 1, 1), (.ifCond .lt 17, 3), (.iload_n 1, 1), (.aload_n 0, 1), (.getfield 37, 3), (.getfield 158, 3), (.getfield 51, 3), (.if_icmp .lt 13, 3), (.new 129, 3), (.dup, 1), (.ldc 161, 2), (.invokespecial 133, 3), (.athrow, 1), (.aload_n 0, 1), (.dup, 1), (.getfield 41, 3), (.iconst 1, 1), (.isub, 1), (.putfield 41, 3), (.aload_n 0, 1), (.getfield 37, 3), (.getfield 158, 3), (.getfield 163, 3), (.iload_n 1, 1), (.caload, 1), (.ireturn, 1)])
def m_E_kind : jw_M := (({ cls := "TemplateEngine", name := "kind", desc := "(I)I" } : Jvm.MethodName), prog_1_method_13_code, 2, (Option.some Jvm.ClassFile.FieldType.int), jt_b [(.aload_n 0, 1), (.dup, 1), (.getfield 41, 3), (.iconst 1, 1), (.iadd, 1), (.putfield 41, 3), (.aload_n 0, 1), (.iload_n 1, 1), (.invokevirtual 90, 3), (.ifCond .ne 13, 3), (.new 94, 3), (.dup, 1), (.ldc 96, 2), (.invokespecial 98, 3), (.athrow, 1), (.aload_n 0, 1), (.dup, 1), (.getfield 41, 3), (.iconst 1, 1), (.isub, 1), (.putfield 41, 3), (.aload_n 0, 1), (.getfield 20, 3), (.iload_n 1, 1), (.aaload, 1), (.getfield 99, 3), (.ireturn, 1)])
def m_E_size : jw_M := (({ cls := "TemplateEngine", name := "size", desc := "(I)I" } : Jvm.MethodName), prog_1_method_14_code, 2, (Option.some Jvm.ClassFile.FieldType.int), jt_b [(.aload_n 0, 1), (.dup, 1), (.getfield 41, 3), (.iconst 1, 1), (.iadd, 1), (.putfield 41, 3), (.aload_n 0, 1), (.iload_n 1, 1), (.invokevirtual 90, 3), (.ifCond .ne 13, 3), (.new 94, 3), (.dup, 1), (.ldc 96, 2), (.invokespecial 98, 3), (.athrow, 1), (.aload_n 0, 1), (.dup, 1), (.getfield 41, 3), (.iconst 1, 1), (.isub, 1), (.putfield 41, 3), (.aload_n 0, 1), (.getfield 20, 3), (.iload_n 1, 1), (.aaload, 1), (.invokevirtual 167, 3), (.ireturn, 1)])
def m_E_count : jw_M := (({ cls := "TemplateEngine", name := "count", desc := "(I)I" } : Jvm.MethodName), prog_1_method_15_code, 2, (Option.some Jvm.ClassFile.FieldType.int), jt_b [(.iload_n 1, 1), (.tableswitch 81 0 5 #[39, 44, 52, 57, 68, 76], 39), (.aload_n 0, 1), (.getfield 63, 3), (.ireturn, 1), (.aload_n 0, 1), (.getfield 14, 3), (.getfield 51, 3), (.ireturn, 1), (.aload_n 0, 1), (.invokevirtual 171, 3), (.ireturn, 1), (.aload_n 0, 1), (.getfield 37, 3), (.getfield 158, 3), (.getfield 51, 3), (.ireturn, 1), (.aload_n 0, 1), (.getfield 37, 3), (.getfield 174, 3), (.ireturn, 1), (.aload_n 0, 1), (.getfield 41, 3), (.ireturn, 1), (.iconst (-1), 1), (.ireturn, 1)])
def m_E_isData : jw_M := (({ cls := "TemplateEngine", name := "isData", desc := "(I)Z" } : Jvm.MethodName), prog_1_method_16_code, 2, (Option.some Jvm.ClassFile.FieldType.boolean), jt_b [(.iload_n 1, 1), (.ifCond .lt 15, 3), (.iload_n 1, 1), (.aload_n 0, 1), (.getfield 63, 3), (.if_icmp .ge 7, 3), (.iconst 1, 1), (.goto 4, 3), (.iconst 0, 1), (.ireturn, 1)])
def m_E_keep : jw_M := (({ cls := "TemplateEngine", name := "keep", desc := "(LTemplateEngine$Value;)I" } : Jvm.MethodName), prog_1_method_17_code, 2, (Option.some Jvm.ClassFile.FieldType.int), jt_b [(.aload_n 0, 1), (.getfield 20, 3), (.aload_n 0, 1), (.getfield 63, 3), (.aload_n 1, 1), (.aastore, 1), (.aload_n 0, 1), (.dup, 1), (.getfield 63, 3), (.iconst 1, 1), (.iadd, 1), (.putfield 63, 3), (.aload_n 0, 1), (.getfield 63, 3), (.iconst 1, 1), (.isub, 1), (.ireturn, 1)])
def m_E_templatesThere : jw_M := (({ cls := "TemplateEngine", name := "templatesThere", desc := "()I" } : Jvm.MethodName), prog_1_method_18_code, 3, (Option.some Jvm.ClassFile.FieldType.int), jt_b [(.iconst 0, 1), (.istore_n 1, 1), (.iconst 0, 1), (.istore_n 2, 1), (.iload_n 2, 1), (.iconst 4, 1), (.if_icmp .ge 21, 3), (.aload_n 0, 1), (.getfield 26, 3), (.iload_n 2, 1), (.aaload, 1), (.ifnull 6, 3), (.iinc 1 1, 3), (.iinc 2 1, 3), (.goto (-20), 3), (.iload_n 1, 1), (.ireturn, 1)])
def m_E_wouldHoldItself : jw_M := (({ cls := "TemplateEngine", name := "wouldHoldItself", desc := "(LTemplateEngine$Value;LTemplateEngine$Value;)Z" } : Jvm.MethodName), prog_1_method_19_code, 3, (Option.some Jvm.ClassFile.FieldType.boolean), jt_b [(.aload_n 0, 1), (.dup, 1), (.getfield 177, 3), (.iconst 1, 1), (.iadd, 1), (.putfield 177, 3), (.aload_n 0, 1), (.aload_n 1, 1), (.aload_n 2, 1), (.iconst 0, 1), (.invokevirtual 180, 3), (.ireturn, 1)])
def m_E_isWithin : jw_M := (({ cls := "TemplateEngine", name := "isWithin", desc := "(LTemplateEngine$Value;LTemplateEngine$Value;I)Z" } : Jvm.MethodName), prog_1_method_20_code, 5, (Option.some Jvm.ClassFile.FieldType.boolean), jt_b [(.aload_n 2, 1), (.aload_n 1, 1), (.if_acmp .ne 5, 3), (.iconst 1, 1), (.ireturn, 1), (.aload_n 2, 1), (.getfield 184, 3), (.aload_n 0, 1), (.getfield 177, 3), (.if_icmp .eq 9, 3), (.iload_n 3, 1), (.bipush 60, 2), (.if_icmp .lt 5, 3), (.iconst 0, 1), (.ireturn, 1), (.aload_n 2, 1), (.aload_n 0, 1), (.getfield 177, 3), (.putfield 184, 3), (.iconst 0, 1), (.istore 4, 2), (.iload 4, 2), (.aload_n 2, 1), (.getfield 108, 3), (.if_icmp .ge 29, 3), (.aload_n 0, 1), (.aload_n 1, 1), (.aload_n 2, 1), (.getfield 187, 3), (.iload 4, 2), (.aaload, 1), (.iload_n 3, 1), (.iconst 1, 1), (.iadd, 1), (.invokevirtual 180, 3), (.ifCond .eq 5, 3), (.iconst 1, 1), (.ireturn, 1), (.iinc 4 1, 3), (.goto (-32), 3), (.iconst 0, 1), (.ireturn, 1)])
def m_M_init : jw_M := (({ cls := "TemplateEngineModel", name := "<init>", desc := "()V" } : Jvm.MethodName), prog_14_method_1_code, 1, (Option.none : Option Jvm.ClassFile.FieldType), jt_b [(.aload_n 0, 1), (.invokespecial 1, 3), (.aload_n 0, 1), (.iconst 0, 1), (.putfield 7, 3), (.aload_n 0, 1), (.iconst 0, 1), (.putfield 13, 3), (.aload_n 0, 1), (.iconst 0, 1), (.putfield 16, 3), (.aload_n 0, 1), (.iconst (-1), 1), (.putfield 19, 3), (.aload_n 0, 1), (.iconst 0, 1), (.putfield 22, 3), (.aload_n 0, 1), (.iconst 0, 1), (.putfield 25, 3), (.aload_n 0, 1), (.iconst 0, 1), (.putfield 28, 3), (.aload_n 0, 1), (.sipush 200, 3), (.newarray .char, 2), (.putfield 31, 3), (.aload_n 0, 1), (.bipush 60, 2), (.newarray .int, 2), (.putfield 35, 3), (.aload_n 0, 1), (.bipush 60, 2), (.newarray .int, 2), (.putfield 39, 3), (.aload_n 0, 1), (.sipush 3000, 3), (.newarray .int, 2), (.putfield 42, 3), (.aload_n 0, 1), (.sipush 600, 3), (.newarray .int, 2), (.putfield 45, 3), (.aload_n 0, 1), (.sipush 600, 3), (.newarray .long, 2), (.putfield 48, 3), (.aload_n 0, 1), (.bipush 60, 2), (.newarray .boolean, 2), (.putfield 52, 3), (.aload_n 0, 1), (.sipush 1000, 3), (.newarray .char, 2), (.putfield 56, 3), (.aload_n 0, 1), (.iconst 5, 1), (.newarray .int, 2), (.putfield 59, 3), (.aload_n 0, 1), (.iconst 5, 1), (.newarray .int, 2), (.putfield 62, 3), (.aload_n 0, 1), (.iconst 4, 1), (.newarray .boolean, 2), (.putfield 65, 3), (.aload_n 0, 1), (.sipush 250, 3), (.newarray .int, 2), (.putfield 68, 3), (.aload_n 0, 1), (.sipush 250, 3), (.newarray .int, 2), (.putfield 71, 3), (.aload_n 0, 1), (.sipush 250, 3), (.newarray .int, 2), (.putfield 74, 3), (.aload_n 0, 1), (.sipush 250, 3), (.newarray .int, 2), (.putfield 77, 3), (.aload_n 0, 1), (.sipush 250, 3), (.newarray .int, 2), (.putfield 80, 3), (.aload_n 0, 1), (.sipush 250, 3), (.newarray .int, 2), (.putfield 83, 3), (.aload_n 0, 1), (.sipush 250, 3), (.newarray .int, 2), (.putfield 86, 3), (.aload_n 0, 1), (.iconst 4, 1), (.newarray .int, 2), (.putfield 89, 3), (.aload_n 0, 1), (.bipush 18, 2), (.newarray .int, 2), (.putfield 92, 3), (.aload_n 0, 1), (.bipush 18, 2), (.newarray .int, 2), (.putfield 95, 3), (.aload_n 0, 1), (.bipush 18, 2), (.newarray .int, 2), (.putfield 98, 3), (.aload_n 0, 1), (.sipush 7200, 3), (.newarray .char, 2), (.putfield 101, 3), (.aload_n 0, 1), (.sipush 401, 3), (.newarray .char, 2), (.putfield 104, 3), (.aload_n 0, 1), (.sipush 400, 3), (.newarray .char, 2), (.putfield 107, 3), (.aload_n 0, 1), (.sipush 400, 3), (.newarray .char, 2), (.putfield 110, 3), (.aload_n 0, 1), (.iconst 0, 1), (.putfield 113, 3), (.aload_n 0, 1), (.iconst 0, 1), (.putfield 116, 3), (.aload_n 0, 1), (.iconst 0, 1), (.putfield 119, 3), (.aload_n 0, 1), (.iconst 0, 1), (.putfield 122, 3), (.aload_n 0, 1), (.iconst 0, 1), (.putfield 125, 3), (.aload_n 0, 1), (.iconst 0, 1), (.putfield 128, 3), (.aload_n 0, 1), (.iconst 0, 1), (.putfield 131, 3), (.aload_n 0, 1), (.bipush 20, 2), (.newarray .int, 2), (.putfield 134, 3), (.aload_n 0, 1), (.bipush 20, 2), (.newarray .int, 2), (.putfield 137, 3), (.aload_n 0, 1), (.bipush 20, 2), (.newarray .int, 2), (.putfield 140, 3), (.aload_n 0, 1), (.bipush 20, 2), (.newarray .int, 2), (.putfield 143, 3), (.aload_n 0, 1), (.bipush 60, 2), (.newarray .int, 2), (.putfield 146, 3), (.aload_n 0, 1), (.bipush 60, 2), (.newarray .int, 2), (.putfield 149, 3), (.aload_n 0, 1), (.bipush 20, 2), (.newarray .boolean, 2), (.putfield 152, 3), (.aload_n 0, 1), (.bipush 20, 2), (.newarray .boolean, 2), (.putfield 155, 3), (.return_, 1)])
def m_M_thrown : jw_M := (({ cls := "TemplateEngineModel", name := "thrown", desc := "()I" } : Jvm.MethodName), prog_14_method_2_code, 1, (Option.some Jvm.ClassFile.FieldType.int), jt_b [(.aload_n 0, 1), (.getfield 7, 3), (.ireturn, 1)])
def m_M_refuse : jw_M := (({ cls := "TemplateEngineModel", name := "refuse", desc := "(I)I" } : Jvm.MethodName), prog_14_method_3_code, 2, (Option.some Jvm.ClassFile.FieldType.int), jt_b [(.aload_n 0, 1), (.iload_n 1, 1), (.putfield 7, 3), (.aload_n 0, 1), (.dup, 1), (.getfield 13, 3), (.iconst 1, 1), (.iadd, 1), (.putfield 13, 3), (.iconst 0, 1), (.ireturn, 1)])
def m_M_fine : jw_M := (({ cls := "TemplateEngineModel", name := "fine", desc := "(I)I" } : Jvm.MethodName), prog_14_method_4_code, 2, (Option.some Jvm.ClassFile.FieldType.int), jt_b [(.aload_n 0, 1), (.iconst 0, 1), (.putfield 7, 3), (.iload_n 1, 1), (.ireturn, 1)])
def m_M_type : jw_M := (({ cls := "TemplateEngineModel", name := "type", desc := "(I)I" } : Jvm.MethodName), prog_14_method_5_code, 2, (Option.some Jvm.ClassFile.FieldType.int), jt_b [(.iload_n 1, 1), (.ifCond .lt 9, 3), (.iload_n 1, 1), (.bipush 127, 2), (.if_icmp .le 9, 3), (.aload_n 0, 1), (.iconst 1, 1), (.invokevirtual 158, 3), (.ireturn, 1), (.aload_n 0, 1), (.getfield 16, 3), (.sipush 200, 3), (.if_icmp .ne 9, 3), (.aload_n 0, 1), (.iconst 2, 1), (.invokevirtual 158, 3), (.ireturn, 1), (.aload_n 0, 1), (.getfield 31, 3), (.aload_n 0, 1), (.getfield 16, 3), (.iload_n 1, 1), (.i2c, 1), (.castore, 1), (.aload_n 0, 1), (.dup, 1), (.getfield 16, 3), (.iconst 1, 1), (.iadd, 1), (.putfield 16, 3), (.aload_n 0, 1), (.aload_n 0, 1), (.getfield 16, 3), (.invokevirtual 162, 3), (.ireturn, 1)])
def m_M_make : jw_M := (({ cls := "TemplateEngineModel", name := "make", desc := "(II)I" } : Jvm.MethodName), prog_14_method_6_code, 3, (Option.some Jvm.ClassFile.FieldType.int), jt_b [(.aload_n 0, 1), (.getfield 22, 3), (.bipush 60, 2), (.if_icmp .ne 9, 3), (.aload_n 0, 1), (.iconst 1, 1), (.invokevirtual 158, 3), (.ireturn, 1), (.aload_n 0, 1), (.getfield 35, 3), (.aload_n 0, 1), (.getfield 22, 3), (.iload_n 1, 1), (.iastore, 1), (.aload_n 0, 1), (.getfield 39, 3), (.aload_n 0, 1), (.getfield 22, 3), (.iload_n 2, 1), (.iastore, 1), (.aload_n 0, 1), (.dup, 1), (.getfield 22, 3), (.iconst 1, 1), (.iadd, 1), (.putfield 22, 3), (.aload_n 0, 1), (.aload_n 0, 1), (.getfield 22, 3), (.iconst 1, 1), (.isub, 1), (.invokevirtual 162, 3), (.ireturn, 1)])
def m_M_number : jw_M := (({ cls := "TemplateEngineModel", name := "number", desc := "(I)I" } : Jvm.MethodName), prog_14_method_7_code, 2, (Option.some Jvm.ClassFile.FieldType.int), jt_b [(.aload_n 0, 1), (.iconst 0, 1), (.iload_n 1, 1), (.invokevirtual 165, 3), (.ireturn, 1)])
def m_M_text : jw_M := (({ cls := "TemplateEngineModel", name := "text", desc := "()I" } : Jvm.MethodName), prog_14_method_8_code, 2, (Option.some Jvm.ClassFile.FieldType.int), jt_b [(.aload_n 0, 1), (.getfield 22, 3), (.bipush 60, 2), (.if_icmp .ne 9, 3), (.aload_n 0, 1), (.iconst 1, 1), (.invokevirtual 158, 3), (.ireturn, 1), (.iconst 0, 1), (.istore_n 1, 1), (.iload_n 1, 1), (.bipush 50, 2), (.if_icmp .ge 24, 3), (.aload_n 0, 1), (.getfield 42, 3), (.aload_n 0, 1), (.getfield 22, 3), (.bipush 50, 2), (.imul, 1), (.iload_n 1, 1), (.iadd, 1), (.iconst 0, 1), (.iastore, 1), (.iinc 1 1, 3), (.goto (-24), 3), (.iconst 0, 1), (.istore_n 1, 1), (.iload_n 1, 1), (.aload_n 0, 1), (.getfield 16, 3), (.if_icmp .ge 41, 3), (.aload_n 0, 1), (.getfield 42, 3), (.aload_n 0, 1), (.getfield 22, 3), (.bipush 50, 2), (.imul, 1), (.iload_n 1, 1), (.iconst 4, 1), (.idiv, 1), (.iadd, 1), (.dup2, 1), (.iaload, 1), (.aload_n 0, 1), (.getfield 31, 3), (.iload_n 1, 1), (.caload, 1), (.bipush 8, 2), (.iload_n 1, 1), (.iconst 4, 1), (.irem, 1), (.imul, 1), (.ishl, 1), (.ior, 1), (.iastore, 1), (.iinc 1 1, 3), (.goto (-43), 3), (.aload_n 0, 1), (.getfield 16, 3), (.istore_n 1, 1), (.aload_n 0, 1), (.iconst 0, 1), (.putfield 16, 3), (.aload_n 0, 1), (.iconst 1, 1), (.iload_n 1, 1), (.invokevirtual 165, 3), (.ireturn, 1)])
def m_M_list : jw_M := (({ cls := "TemplateEngineModel", name := "list", desc := "()I" } : Jvm.MethodName), prog_14_method_9_code, 1, (Option.some Jvm.ClassFile.FieldType.int), jt_b [(.aload_n 0, 1), (.iconst 2, 1), (.iconst 0, 1), (.invokevirtual 165, 3), (.ireturn, 1)])
def m_M_map : jw_M := (({ cls := "TemplateEngineModel", name := "map", desc := "()I" } : Jvm.MethodName), prog_14_method_10_code, 1, (Option.some Jvm.ClassFile.FieldType.int), jt_b [(.aload_n 0, 1), (.iconst 3, 1), (.iconst 0, 1), (.invokevirtual 165, 3), (.ireturn, 1)])
def m_M_no : jw_M := (({ cls := "TemplateEngineModel", name := "no", desc := "(I)Z" } : Jvm.MethodName), prog_14_method_11_code, 2, (Option.some Jvm.ClassFile.FieldType.boolean), jt_b [(.iload_n 1, 1), (.ifCond .lt 11, 3), (.iload_n 1, 1), (.aload_n 0, 1), (.getfield 22, 3), (.if_icmp .lt 7, 3), (.iconst 1, 1), (.goto 4, 3), (.iconst 0, 1), (.ireturn, 1)])
def m_M_holds : jw_M := (({ cls := "TemplateEngineModel", name := "holds", desc := "(II)Z" } : Jvm.MethodName), prog_14_method_12_code, 7, (Option.some Jvm.ClassFile.FieldType.boolean), jt_b [(.iconst 0, 1), (.istore_n 3, 1), (.iload_n 3, 1), (.aload_n 0, 1), (.getfield 22, 3), (.if_icmp .ge 25, 3), (.aload_n 0, 1), (.getfield 52, 3), (.iload_n 3, 1), (.iload_n 3, 1), (.iload_n 1, 1), (.if_icmp .ne 7, 3), (.iconst 1, 1), (.goto 4, 3), (.iconst 0, 1), (.bastore, 1), (.iinc 3 1, 3), (.goto (-27), 3), (.iconst 1, 1), (.istore_n 3, 1), (.iload_n 3, 1), (.ifCond .eq 106, 3), (.iconst 0, 1), (.istore_n 3, 1), (.iconst 0, 1), (.istore 4, 2), (.iload 4, 2), (.aload_n 0, 1), (.getfield 22, 3), (.if_icmp .ge 89, 3), (.aload_n 0, 1), (.getfield 52, 3), (.iload 4, 2), (.baload, 1), (.ifCond .eq 73, 3), (.aload_n 0, 1), (.getfield 35, 3), (.iload 4, 2), (.iaload, 1), (.iconst 2, 1), (.if_icmp .ge 6, 3), (.goto 59, 3), (.iconst 0, 1), (.istore 5, 2), (.iload 5, 2), (.aload_n 0, 1), (.getfield 39, 3), (.iload 4, 2), (.iaload, 1), (.if_icmp .ge 44, 3), (.aload_n 0, 1), (.getfield 45, 3), (.iload 4, 2), (.bipush 10, 2), (.imul, 1), (.iload 5, 2), (.iadd, 1), (.iaload, 1), (.istore 6, 2), (.aload_n 0, 1), (.getfield 52, 3), (.iload 6, 2), (.baload, 1), (.ifCond .ne 5, 3), (.iconst 1, 1), (.istore_n 3, 1), (.aload_n 0, 1), (.getfield 52, 3), (.iload 6, 2), (.iconst 1, 1), (.bastore, 1), (.iinc 5 1, 3), (.goto (-50), 3), (.iinc 4 1, 3), (.goto (-92), 3), (.goto (-104), 3), (.aload_n 0, 1), (.getfield 52, 3), (.iload_n 2, 1), (.baload, 1), (.ireturn, 1)])
def m_M_add : jw_M := (({ cls := "TemplateEngineModel", name := "add", desc := "(II)I" } : Jvm.MethodName), prog_14_method_13_code, 3, (Option.some Jvm.ClassFile.FieldType.int), jt_b [(.aload_n 0, 1), (.iload_n 1, 1), (.invokevirtual 169, 3), (.ifCond .ne 11, 3), (.aload_n 0, 1), (.iload_n 2, 1), (.invokevirtual 169, 3), (.ifCond .eq 9, 3), (.aload_n 0, 1), (.iconst 1, 1), (.invokevirtual 158, 3), (.ireturn, 1), (.aload_n 0, 1), (.getfield 35, 3), (.iload_n 1, 1), (.iaload, 1), (.iconst 2, 1), (.if_icmp .ne 12, 3), (.aload_n 0, 1), (.iload_n 2, 1), (.iload_n 1, 1), (.invokevirtual 173, 3), (.ifCond .eq 9, 3), (.aload_n 0, 1), (.iconst 2, 1), (.invokevirtual 158, 3), (.ireturn, 1), (.aload_n 0, 1), (.getfield 39, 3), (.iload_n 1, 1), (.iaload, 1), (.bipush 10, 2), (.if_icmp .ne 9, 3), (.aload_n 0, 1), (.iconst 3, 1), (.invokevirtual 158, 3), (.ireturn, 1), (.aload_n 0, 1), (.getfield 45, 3), (.iload_n 1, 1), (.bipush 10, 2), (.imul, 1), (.aload_n 0, 1), (.getfield 39, 3), (.iload_n 1, 1), (.iaload, 1), (.iadd, 1), (.iload_n 2, 1), (.iastore, 1), (.aload_n 0, 1), (.getfield 39, 3), (.iload_n 1, 1), (.dup2, 1), (.iaload, 1), (.iconst 1, 1), (.iadd, 1), (.iastore, 1), (.aload_n 0, 1), (.aload_n 0, 1), (.getfield 39, 3), (.iload_n 1, 1), (.iaload, 1), (.invokevirtual 162, 3), (.ireturn, 1)])
def m_M_letter : jw_M := (({ cls := "TemplateEngineModel", name := "letter", desc := "(I)Z" } : Jvm.MethodName), prog_14_method_14_code, 2, (Option.some Jvm.ClassFile.FieldType.boolean), jt_b [(.iload_n 1, 1), (.bipush 97, 2), (.if_icmp .lt 13, 3), (.iload_n 1, 1), (.bipush 122, 2), (.if_icmp .gt 7, 3), (.iconst 1, 1), (.goto 4, 3), (.iconst 0, 1), (.ireturn, 1)])
def m_M_lineName : jw_M := (({ cls := "TemplateEngineModel", name := "lineName", desc := "()J" } : Jvm.MethodName), prog_14_method_15_code, 4, (Option.some Jvm.ClassFile.FieldType.long), jt_b [(.lconst 0, 1), (.lstore_n 1, 1), (.iconst 0, 1), (.istore_n 3, 1), (.iload_n 3, 1), (.aload_n 0, 1), (.getfield 16, 3), (.if_icmp .ge 51, 3), (.aload_n 0, 1), (.aload_n 0, 1), (.getfield 31, 3), (.iload_n 3, 1), (.caload, 1), (.invokevirtual 177, 3), (.ifCond .eq 12, 3), (.aload_n 0, 1), (.getfield 16, 3), (.bipush 8, 2), (.if_icmp .le 5, 3), (.lconst 0, 1), (.lreturn, 1), (.lload_n 1, 1), (.ldc2_w 180, 3), (.lmul, 1), (.aload_n 0, 1), (.getfield 31, 3), (.iload_n 3, 1), (.caload, 1), (.i2l, 1), (.ladd, 1), (.ldc2_w 182, 3), (.lsub, 1), (.lstore_n 1, 1), (.iinc 3 1, 3), (.goto (-53), 3), (.lload_n 1, 1), (.lreturn, 1)])
def m_M_find : jw_M := (({ cls := "TemplateEngineModel", name := "find", desc := "(IJ)I" } : Jvm.MethodName), prog_14_method_16_code, 5, (Option.some Jvm.ClassFile.FieldType.int), jt_b [(.iconst 0, 1), (.istore 4, 2), (.iload 4, 2), (.aload_n 0, 1), (.getfield 39, 3), (.iload_n 1, 1), (.iaload, 1), (.if_icmp .ge 29, 3), (.aload_n 0, 1), (.getfield 48, 3), (.iload_n 1, 1), (.bipush 10, 2), (.imul, 1), (.iload 4, 2), (.iadd, 1), (.laload, 1), (.lload_n 2, 1), (.lcmp, 1), (.ifCond .ne 6, 3), (.iload 4, 2), (.ireturn, 1), (.iinc 4 1, 3), (.goto (-34), 3), (.iconst (-1), 1), (.ireturn, 1)])
def m_M_put : jw_M := (({ cls := "TemplateEngineModel", name := "put", desc := "(II)I" } : Jvm.MethodName), prog_14_method_17_code, 6, (Option.some Jvm.ClassFile.FieldType.int), jt_b [(.aload_n 0, 1), (.iload_n 1, 1), (.invokevirtual 169, 3), (.ifCond .ne 11, 3), (.aload_n 0, 1), (.iload_n 2, 1), (.invokevirtual 169, 3), (.ifCond .eq 9, 3), (.aload_n 0, 1), (.iconst 1, 1), (.invokevirtual 158, 3), (.ireturn, 1), (.aload_n 0, 1), (.invokevirtual 184, 3), (.lstore_n 3, 1), (.aload_n 0, 1), (.getfield 35, 3), (.iload_n 1, 1), (.iaload, 1), (.iconst 3, 1), (.if_icmp .ne 18, 3), (.aload_n 0, 1), (.iload_n 2, 1), (.iload_n 1, 1), (.invokevirtual 173, 3), (.ifCond .ne 9, 3), (.lload_n 3, 1), (.lconst 0, 1), (.lcmp, 1), (.ifCond .ne 9, 3), (.aload_n 0, 1), (.iconst 2, 1), (.invokevirtual 158, 3), (.ireturn, 1), (.aload_n 0, 1), (.iload_n 1, 1), (.lload_n 3, 1), (.invokevirtual 188, 3), (.istore 5, 2), (.iload 5, 2), (.ifCond .ge 20, 3), (.aload_n 0, 1), (.getfield 39, 3), (.iload_n 1, 1), (.iaload, 1), (.bipush 10, 2), (.if_icmp .ne 9, 3), (.aload_n 0, 1), (.iconst 3, 1), (.invokevirtual 158, 3), (.ireturn, 1), (.aload_n 0, 1), (.iconst 0, 1), (.putfield 16, 3), (.iload 5, 2), (.ifCond .ge 34, 3), (.aload_n 0, 1), (.getfield 39, 3), (.iload_n 1, 1), (.iaload, 1), (.istore 5, 2), (.aload_n 0, 1), (.getfield 39, 3), (.iload_n 1, 1), (.dup2, 1), (.iaload, 1), (.iconst 1, 1), (.iadd, 1), (.iastore, 1), (.aload_n 0, 1), (.getfield 48, 3), (.iload_n 1, 1), (.bipush 10, 2), (.imul, 1), (.iload 5, 2), (.iadd, 1), (.lload_n 3, 1), (.lastore, 1), (.aload_n 0, 1), (.getfield 45, 3), (.iload_n 1, 1), (.bipush 10, 2), (.imul, 1), (.iload 5, 2), (.iadd, 1), (.iload_n 2, 1), (.iastore, 1), (.aload_n 0, 1), (.aload_n 0, 1), (.getfield 39, 3), (.iload_n 1, 1), (.iaload, 1), (.invokevirtual 162, 3), (.ireturn, 1)])
def m_M_at0 : jw_M := (({ cls := "TemplateEngineModel", name := "at0", desc := "(II)I" } : Jvm.MethodName), prog_14_method_18_code, 3, (Option.some Jvm.ClassFile.FieldType.int), jt_b [(.iload_n 1, 1), (.iload_n 2, 1), (.if_icmp .ge 12, 3), (.aload_n 0, 1), (.getfield 56, 3), (.iload_n 1, 1), (.caload, 1), (.goto 4, 3), (.iconst 0, 1), (.ireturn, 1)])
def m_M_stands : jw_M := (({ cls := "TemplateEngineModel", name := "stands", desc := "(IIJ)Z" } : Jvm.MethodName), prog_14_method_19_code, 8, (Option.some Jvm.ClassFile.FieldType.boolean), jt_b [(.iload_n 1, 1), (.istore 5, 2), (.bipush 56, 2), (.istore 6, 2), (.iload 6, 2), (.ifCond .lt 45, 3), (.lload_n 3, 1), (.iload 6, 2), (.lshr, 1), (.ldc2_w 192, 3), (.land, 1), (.l2i, 1), (.istore 7, 2), (.iload 7, 2), (.ifCond .ne 6, 3), (.goto 20, 3), (.aload_n 0, 1), (.iload 5, 2), (.iload_n 2, 1), (.invokevirtual 194, 3), (.iload 7, 2), (.if_icmp .eq 5, 3), (.iconst 0, 1), (.ireturn, 1), (.iinc 5 1, 3), (.iinc 6 (-8), 3), (.goto (-44), 3), (.iconst 1, 1), (.ireturn, 1)])
def m_M_letters : jw_M := (({ cls := "TemplateEngineModel", name := "letters", desc := "(II)I" } : Jvm.MethodName), prog_14_method_20_code, 4, (Option.some Jvm.ClassFile.FieldType.int), jt_b [(.iload_n 1, 1), (.istore_n 3, 1), (.aload_n 0, 1), (.aload_n 0, 1), (.iload_n 3, 1), (.iload_n 2, 1), (.invokevirtual 194, 3), (.invokevirtual 177, 3), (.ifCond .eq 9, 3), (.iinc 3 1, 3), (.goto (-16), 3), (.iload_n 3, 1), (.iload_n 1, 1), (.isub, 1), (.ireturn, 1)])
def m_M_digit : jw_M := (({ cls := "TemplateEngineModel", name := "digit", desc := "(I)Z" } : Jvm.MethodName), prog_14_method_21_code, 2, (Option.some Jvm.ClassFile.FieldType.boolean), jt_b [(.iload_n 1, 1), (.bipush 48, 2), (.if_icmp .lt 13, 3), (.iload_n 1, 1), (.bipush 57, 2), (.if_icmp .gt 7, 3), (.iconst 1, 1), (.goto 4, 3), (.iconst 0, 1), (.ireturn, 1)])
def m_M_pathEnd : jw_M := (({ cls := "TemplateEngineModel", name := "pathEnd", desc := "(II)I" } : Jvm.MethodName), prog_14_method_22_code, 5, (Option.some Jvm.ClassFile.FieldType.int), jt_b [(.aload_n 0, 1), (.iload_n 1, 1), (.iload_n 2, 1), (.ldc2_w 197, 3), (.invokevirtual 199, 3), (.ifCond .ne 15, 3), (.aload_n 0, 1), (.iload_n 1, 1), (.iload_n 2, 1), (.ldc2_w 203, 3), (.invokevirtual 199, 3), (.ifCond .eq 8, 3), (.iload_n 1, 1), (.bipush 6, 2), (.iadd, 1), (.ireturn, 1), (.iload_n 1, 1), (.istore_n 3, 1), (.aload_n 0, 1), (.iload_n 3, 1), (.iload_n 2, 1), (.ldc2_w 205, 3), (.invokevirtual 199, 3), (.ifCond .eq 9, 3), (.iinc 3 3, 3), (.goto (-15), 3), (.aload_n 0, 1), (.iload_n 3, 1), (.iload_n 2, 1), (.invokevirtual 207, 3), (.istore 4, 2), (.iload 4, 2), (.iconst 1, 1), (.if_icmp .lt 10, 3), (.iload 4, 2), (.bipush 8, 2), (.if_icmp .le 5, 3), (.iconst (-1), 1), (.ireturn, 1), (.iload 4, 2), (.iconst 4, 1), (.if_icmp .ne 19, 3), (.aload_n 0, 1), (.iload_n 3, 1), (.iload_n 2, 1), (.ldc2_w 210, 3), (.invokevirtual 199, 3), (.ifCond .eq 7, 3), (.iload_n 3, 1), (.iconst 4, 1), (.iadd, 1), (.ireturn, 1), (.iload_n 3, 1), (.iload 4, 2), (.iadd, 1), (.istore_n 3, 1), (.aload_n 0, 1), (.iload_n 3, 1), (.iload_n 2, 1), (.invokevirtual 194, 3), (.bipush 46, 2), (.if_icmp .ne 61, 3), (.aload_n 0, 1), (.iload_n 3, 1), (.iconst 1, 1), (.iadd, 1), (.iload_n 2, 1), (.invokevirtual 207, 3), (.istore 4, 2), (.iload 4, 2), (.ifCond .ne 21, 3), (.aload_n 0, 1), (.aload_n 0, 1), (.iload_n 3, 1), (.iconst 1, 1), (.iadd, 1), (.iload_n 2, 1), (.invokevirtual 194, 3), (.invokevirtual 212, 3), (.ifCond .eq 6, 3), (.iconst 1, 1), (.istore 4, 2), (.iload 4, 2), (.iconst 1, 1), (.if_icmp .lt 10, 3), (.iload 4, 2), (.bipush 8, 2), (.if_icmp .le 5, 3), (.iconst (-1), 1), (.ireturn, 1), (.iload_n 3, 1), (.iconst 1, 1), (.iload 4, 2), (.iadd, 1), (.iadd, 1), (.istore_n 3, 1), (.goto (-66), 3), (.iload_n 3, 1), (.ireturn, 1)])
def m_M_operandEnd : jw_M := (({ cls := "TemplateEngineModel", name := "operandEnd", desc := "(II)I" } : Jvm.MethodName), prog_14_method_23_code, 5, (Option.some Jvm.ClassFile.FieldType.int), jt_b [(.aload_n 0, 1), (.iload_n 1, 1), (.iload_n 2, 1), (.invokevirtual 194, 3), (.istore_n 3, 1), (.iload_n 1, 1), (.istore 4, 2), (.iload_n 3, 1), (.bipush 34, 2), (.if_icmp .ne 63, 3), (.iinc 4 1, 3), (.iload 4, 2), (.iload_n 2, 1), (.if_icmp .ge 33, 3), (.aload_n 0, 1), (.getfield 56, 3), (.iload 4, 2), (.caload, 1), (.bipush 34, 2), (.if_icmp .eq 21, 3), (.aload_n 0, 1), (.getfield 56, 3), (.iload 4, 2), (.caload, 1), (.bipush 125, 2), (.if_icmp .eq 9, 3), (.iinc 4 1, 3), (.goto (-33), 3), (.aload_n 0, 1), (.iload 4, 2), (.iload_n 2, 1), (.invokevirtual 194, 3), (.bipush 34, 2), (.if_icmp .ne 10, 3), (.iload 4, 2), (.iconst 1, 1), (.iadd, 1), (.goto 4, 3), (.iconst (-1), 1), (.ireturn, 1), (.aload_n 0, 1), (.iload_n 3, 1), (.invokevirtual 212, 3), (.ifCond .ne 10, 3), (.aload_n 0, 1), (.iload_n 1, 1), (.iload_n 2, 1), (.invokevirtual 215, 3), (.ireturn, 1), (.aload_n 0, 1), (.aload_n 0, 1), (.iload 4, 2), (.iload_n 2, 1), (.invokevirtual 194, 3), (.invokevirtual 212, 3), (.ifCond .eq 17, 3), (.iload 4, 2), (.iload_n 1, 1), (.isub, 1), (.iconst 5, 1), (.if_icmp .ge 9, 3), (.iinc 4 1, 3), (.goto (-25), 3), (.iload 4, 2), (.ireturn, 1)])
def m_M_helper : jw_M := (({ cls := "TemplateEngineModel", name := "helper", desc := "(II)I" } : Jvm.MethodName), prog_14_method_24_code, 3, (Option.some Jvm.ClassFile.FieldType.int), jt_b [(.aload_n 0, 1), (.iload_n 1, 1), (.iload_n 2, 1), (.ldc2_w 218, 3), (.invokevirtual 199, 3), (.ifCond .eq 5, 3), (.iconst 1, 1), (.ireturn, 1), (.aload_n 0, 1), (.iload_n 1, 1), (.iload_n 2, 1), (.ldc2_w 220, 3), (.invokevirtual 199, 3), (.ifCond .eq 5, 3), (.iconst 2, 1), (.ireturn, 1), (.aload_n 0, 1), (.iload_n 1, 1), (.iload_n 2, 1), (.ldc2_w 222, 3), (.invokevirtual 199, 3), (.ifCond .eq 5, 3), (.iconst 3, 1), (.ireturn, 1), (.aload_n 0, 1), (.iload_n 1, 1), (.iload_n 2, 1), (.ldc2_w 224, 3), (.invokevirtual 199, 3), (.ifCond .eq 5, 3), (.iconst 4, 1), (.ireturn, 1), (.aload_n 0, 1), (.iload_n 1, 1), (.iload_n 2, 1), (.ldc2_w 226, 3), (.invokevirtual 199, 3), (.ifCond .eq 5, 3), (.iconst 5, 1), (.ireturn, 1), (.aload_n 0, 1), (.iload_n 1, 1), (.iload_n 2, 1), (.ldc2_w 228, 3), (.invokevirtual 199, 3), (.ifCond .eq 8, 3), (.bipush 6, 2), (.goto 4, 3), (.iconst 0, 1), (.ireturn, 1)])
def m_M_nameSize : jw_M := (({ cls := "TemplateEngineModel", name := "nameSize", desc := "(I)I" } : Jvm.MethodName), prog_14_method_25_code, 2, (Option.some Jvm.ClassFile.FieldType.int), jt_b [(.iload_n 1, 1), (.iconst 1, 1), (.if_icmp .eq 8, 3), (.iload_n 1, 1), (.iconst 4, 1), (.if_icmp .le 7, 3), (.iconst 3, 1), (.goto 4, 3), (.iconst 4, 1), (.ireturn, 1)])
def m_M_isExpr : jw_M := (({ cls := "TemplateEngineModel", name := "isExpr", desc := "(II)Z" } : Jvm.MethodName), prog_14_method_26_code, 5, (Option.some Jvm.ClassFile.FieldType.boolean), jt_b [(.aload_n 0, 1), (.iload_n 1, 1), (.iload_n 2, 1), (.invokevirtual 230, 3), (.istore_n 3, 1), (.iload_n 3, 1), (.ifCond .ne 24, 3), (.aload_n 0, 1), (.iload_n 1, 1), (.iload_n 2, 1), (.invokevirtual 233, 3), (.iload_n 2, 1), (.if_icmp .ne 12, 3), (.iload_n 1, 1), (.iload_n 2, 1), (.if_icmp .ge 7, 3), (.iconst 1, 1), (.goto 4, 3), (.iconst 0, 1), (.ireturn, 1), (.aload_n 0, 1), (.iload_n 1, 1), (.aload_n 0, 1), (.iload_n 3, 1), (.invokevirtual 236, 3), (.iadd, 1), (.iload_n 2, 1), (.invokevirtual 233, 3), (.istore 4, 2), (.iload_n 3, 1), (.iconst 4, 1), (.if_icmp .lt 8, 3), (.iload 4, 2), (.ifCond .ge 15, 3), (.iload 4, 2), (.iload_n 2, 1), (.if_icmp .ne 7, 3), (.iconst 1, 1), (.goto 4, 3), (.iconst 0, 1), (.ireturn, 1), (.aload_n 0, 1), (.iload 4, 2), (.iload_n 2, 1), (.invokevirtual 194, 3), (.bipush 32, 2), (.if_icmp .ne 20, 3), (.aload_n 0, 1), (.iload 4, 2), (.iconst 1, 1), (.iadd, 1), (.iload_n 2, 1), (.invokevirtual 233, 3), (.iload_n 2, 1), (.if_icmp .ne 7, 3), (.iconst 1, 1), (.goto 4, 3), (.iconst 0, 1), (.ireturn, 1)])
def m_M_sortOf : jw_M := (({ cls := "TemplateEngineModel", name := "sortOf", desc := "(IIZ)I" } : Jvm.MethodName), prog_14_method_27_code, 4, (Option.some Jvm.ClassFile.FieldType.int), jt_b [(.iload_n 3, 1), (.ifCond .eq 18, 3), (.aload_n 0, 1), (.iload_n 1, 1), (.iload_n 2, 1), (.invokevirtual 239, 3), (.ifCond .eq 7, 3), (.iconst 1, 1), (.goto 4, 3), (.iconst (-1), 1), (.ireturn, 1), (.aload_n 0, 1), (.iload_n 1, 1), (.iload_n 2, 1), (.invokevirtual 194, 3), (.bipush 33, 2), (.if_icmp .ne 5, 3), (.iconst 2, 1), (.ireturn, 1), (.aload_n 0, 1), (.iload_n 1, 1), (.iload_n 2, 1), (.ldc2_w 242, 3), (.invokevirtual 199, 3), (.ifCond .eq 20, 3), (.aload_n 0, 1), (.iload_n 1, 1), (.iconst 4, 1), (.iadd, 1), (.iload_n 2, 1), (.invokevirtual 239, 3), (.ifCond .eq 7, 3), (.iconst 3, 1), (.goto 4, 3), (.iconst (-1), 1), (.ireturn, 1), (.aload_n 0, 1), (.iload_n 1, 1), (.iload_n 2, 1), (.ldc2_w 244, 3), (.invokevirtual 199, 3), (.ifCond .eq 21, 3), (.aload_n 0, 1), (.iload_n 1, 1), (.bipush 6, 2), (.iadd, 1), (.iload_n 2, 1), (.invokevirtual 239, 3), (.ifCond .eq 7, 3), (.iconst 4, 1), (.goto 4, 3), (.iconst (-1), 1), (.ireturn, 1), (.aload_n 0, 1), (.iload_n 1, 1), (.iload_n 2, 1), (.ldc2_w 246, 3), (.invokevirtual 199, 3), (.ifCond .eq 21, 3), (.aload_n 0, 1), (.iload_n 1, 1), (.bipush 6, 2), (.iadd, 1), (.iload_n 2, 1), (.invokevirtual 239, 3), (.ifCond .eq 7, 3), (.iconst 5, 1), (.goto 4, 3), (.iconst (-1), 1), (.ireturn, 1), (.iload_n 2, 1), (.iload_n 1, 1), (.isub, 1), (.iconst 4, 1), (.if_icmp .ne 18, 3), (.aload_n 0, 1), (.iload_n 1, 1), (.iload_n 2, 1), (.ldc2_w 248, 3), (.invokevirtual 199, 3), (.ifCond .eq 6, 3), (.bipush 6, 2), (.ireturn, 1), (.iload_n 2, 1), (.iload_n 1, 1), (.isub, 1), (.iconst 3, 1), (.if_icmp .ne 18, 3), (.aload_n 0, 1), (.iload_n 1, 1), (.iload_n 2, 1), (.ldc2_w 250, 3), (.invokevirtual 199, 3), (.ifCond .eq 6, 3), (.bipush 7, 2), (.ireturn, 1), (.iload_n 2, 1), (.iload_n 1, 1), (.isub, 1), (.iconst 5, 1), (.if_icmp .ne 18, 3), (.aload_n 0, 1), (.iload_n 1, 1), (.iload_n 2, 1), (.ldc2_w 252, 3), (.invokevirtual 199, 3), (.ifCond .eq 6, 3), (.bipush 8, 2), (.ireturn, 1), (.iload_n 2, 1), (.iload_n 1, 1), (.isub, 1), (.iconst 5, 1), (.if_icmp .ne 18, 3), (.aload_n 0, 1), (.iload_n 1, 1), (.iload_n 2, 1), (.ldc2_w 254, 3), (.invokevirtual 199, 3), (.ifCond .eq 6, 3), (.bipush 9, 2), (.ireturn, 1), (.aload_n 0, 1), (.iload_n 1, 1), (.iload_n 2, 1), (.invokevirtual 194, 3), (.bipush 62, 2), (.if_icmp .ne 56, 3), (.iload_n 2, 1), (.iload_n 1, 1), (.isub, 1), (.iconst 3, 1), (.if_icmp .ne 47, 3), (.aload_n 0, 1), (.getfield 56, 3), (.iload_n 1, 1), (.iconst 1, 1), (.iadd, 1), (.caload, 1), (.bipush 32, 2), (.if_icmp .ne 34, 3), (.aload_n 0, 1), (.getfield 56, 3), (.iload_n 1, 1), (.iconst 2, 1), (.iadd, 1), (.caload, 1), (.bipush 97, 2), (.if_icmp .lt 21, 3), (.aload_n 0, 1), (.getfield 56, 3), (.iload_n 1, 1), (.iconst 2, 1), (.iadd, 1), (.caload, 1), (.bipush 100, 2), (.if_icmp .gt 8, 3), (.bipush 10, 2), (.goto 4, 3), (.iconst (-1), 1), (.ireturn, 1), (.aload_n 0, 1), (.iload_n 1, 1), (.iload_n 2, 1), (.invokevirtual 239, 3), (.ifCond .eq 7, 3), (.iconst 0, 1), (.goto 4, 3), (.iconst (-1), 1), (.ireturn, 1)])
def m_M_takeTag : jw_M := (({ cls := "TemplateEngineModel", name := "takeTag", desc := "(III)I" } : Jvm.MethodName), prog_14_method_28_code, 8, (Option.some Jvm.ClassFile.FieldType.int), jt_b [(.iload_n 1, 1), (.istore 4, 2), (.iload 4, 2), (.iload_n 2, 1), (.if_icmp .ge 22, 3), (.aload_n 0, 1), (.iload 4, 2), (.iload_n 2, 1), (.ldc2_w 256, 3), (.invokevirtual 199, 3), (.ifCond .ne 9, 3), (.iinc 4 1, 3), (.goto (-22), 3), (.iload 4, 2), (.iload_n 2, 1), (.if_icmp .lt 5, 3), (.iconst 0, 1), (.ireturn, 1), (.aload_n 0, 1), (.getfield 68, 3), (.iload_n 3, 1), (.iload 4, 2), (.iastore, 1), (.aload_n 0, 1), (.iload 4, 2), (.iload_n 2, 1), (.ldc2_w 258, 3), (.invokevirtual 199, 3), (.istore 5, 2), (.iload 5, 2), (.ifCond .eq 7, 3), (.iconst 3, 1), (.goto 4, 3), (.iconst 2, 1), (.istore 6, 2), (.iload 4, 2), (.iload 6, 2), (.iadd, 1), (.istore 7, 2), (.iload 7, 2), (.iload_n 2, 1), (.if_icmp .ge 33, 3), (.aload_n 0, 1), (.iload 7, 2), (.iload_n 2, 1), (.iload 5, 2), (.ifCond .eq 9, 3), (.ldc2_w 260, 3), (.goto 6, 3), (.ldc2_w 262, 3), (.invokevirtual 199, 3), (.ifCond .ne 9, 3), (.iinc 7 1, 3), (.goto (-33), 3), (.iload 7, 2), (.iload_n 2, 1), (.if_icmp .lt 5, 3), (.iconst (-1), 1), (.ireturn, 1), (.aload_n 0, 1), (.getfield 74, 3), (.iload_n 3, 1), (.iload 4, 2), (.iload 6, 2), (.iadd, 1), (.iastore, 1), (.aload_n 0, 1), (.getfield 77, 3), (.iload_n 3, 1), (.iload 7, 2), (.iastore, 1), (.aload_n 0, 1), (.getfield 71, 3), (.iload_n 3, 1), (.iload 7, 2), (.iload 6, 2), (.iadd, 1), (.iastore, 1), (.aload_n 0, 1), (.getfield 80, 3), (.iload_n 3, 1), (.aload_n 0, 1), (.iload 4, 2), (.iload 6, 2), (.iadd, 1), (.iload 7, 2), (.iload 5, 2), (.invokevirtual 264, 3), (.iastore, 1), (.aload_n 0, 1), (.getfield 83, 3), (.iload_n 3, 1), (.iconst (-1), 1), (.iastore, 1), (.aload_n 0, 1), (.getfield 86, 3), (.iload_n 3, 1), (.iconst (-1), 1), (.iastore, 1), (.aload_n 0, 1), (.getfield 80, 3), (.iload_n 3, 1), (.iaload, 1), (.ifCond .ge 7, 3), (.iconst (-1), 1), (.goto 4, 3), (.iconst 1, 1), (.ireturn, 1)])
def m_M_fit : jw_M := (({ cls := "TemplateEngineModel", name := "fit", desc := "(II)I" } : Jvm.MethodName), prog_14_method_29_code, 5, (Option.some Jvm.ClassFile.FieldType.int), jt_b [(.aload_n 0, 1), (.getfield 80, 3), (.iload_n 1, 1), (.iaload, 1), (.istore_n 3, 1), (.iload_n 3, 1), (.iconst 2, 1), (.if_icmp .le 27, 3), (.iload_n 3, 1), (.bipush 6, 2), (.if_icmp .ge 21, 3), (.iload_n 2, 1), (.iconst 4, 1), (.if_icmp .ne 5, 3), (.iconst (-1), 1), (.ireturn, 1), (.aload_n 0, 1), (.getfield 89, 3), (.iload_n 2, 1), (.iload_n 1, 1), (.iastore, 1), (.iload_n 2, 1), (.iconst 1, 1), (.iadd, 1), (.ireturn, 1), (.iload_n 3, 1), (.bipush 6, 2), (.if_icmp .lt 9, 3), (.iload_n 3, 1), (.bipush 10, 2), (.if_icmp .ne 5, 3), (.iload_n 2, 1), (.ireturn, 1), (.iload_n 2, 1), (.ifCond .ne 5, 3), (.iconst (-1), 1), (.ireturn, 1), (.aload_n 0, 1), (.getfield 89, 3), (.iload_n 2, 1), (.iconst 1, 1), (.isub, 1), (.iaload, 1), (.istore 4, 2), (.aload_n 0, 1), (.getfield 86, 3), (.iload_n 1, 1), (.iload 4, 2), (.iastore, 1), (.iload_n 3, 1), (.bipush 6, 2), (.if_icmp .ne 25, 3), (.aload_n 0, 1), (.getfield 83, 3), (.iload 4, 2), (.iaload, 1), (.ifCond .lt 5, 3), (.iconst (-1), 1), (.ireturn, 1), (.aload_n 0, 1), (.getfield 83, 3), (.iload 4, 2), (.iload_n 1, 1), (.iastore, 1), (.iload_n 2, 1), (.ireturn, 1), (.aload_n 0, 1), (.getfield 80, 3), (.iload 4, 2), (.iaload, 1), (.iload_n 3, 1), (.iconst 4, 1), (.isub, 1), (.if_icmp .eq 5, 3), (.iconst (-1), 1), (.ireturn, 1), (.aload_n 0, 1), (.getfield 86, 3), (.iload 4, 2), (.iload_n 1, 1), (.iastore, 1), (.iload_n 2, 1), (.iconst 1, 1), (.isub, 1), (.ireturn, 1)])
def m_M_takeApart : jw_M := (({ cls := "TemplateEngineModel", name := "takeApart", desc := "()I" } : Jvm.MethodName), prog_14_method_30_code, 6, (Option.some Jvm.ClassFile.FieldType.int), jt_b [(.sipush 800, 3), (.istore_n 1, 1), (.sipush 800, 3), (.aload_n 0, 1), (.getfield 16, 3), (.iadd, 1), (.istore_n 2, 1), (.iconst 0, 1), (.istore_n 3, 1), (.sipush 200, 3), (.istore 4, 2), (.iconst 0, 1), (.istore 5, 2), (.iload 5, 2), (.aload_n 0, 1), (.getfield 16, 3), (.if_icmp .ge 27, 3), (.aload_n 0, 1), (.getfield 56, 3), (.sipush 800, 3), (.iload 5, 2), (.iadd, 1), (.aload_n 0, 1), (.getfield 31, 3), (.iload 5, 2), (.caload, 1), (.castore, 1), (.iinc 5 1, 3), (.goto (-30), 3), (.aload_n 0, 1), (.iload_n 1, 1), (.iload_n 2, 1), (.iload 4, 2), (.invokevirtual 268, 3), (.istore 5, 2), (.iload 5, 2), (.ifCond .ge 15, 3), (.aload_n 0, 1), (.getfield 68, 3), (.iload 4, 2), (.iaload, 1), (.sipush 800, 3), (.isub, 1), (.ireturn, 1), (.iload 5, 2), (.ifCond .ne 6, 3), (.goto 41, 3), (.aload_n 0, 1), (.iload 4, 2), (.iload_n 3, 1), (.invokevirtual 272, 3), (.istore_n 3, 1), (.iload_n 3, 1), (.ifCond .ge 15, 3), (.aload_n 0, 1), (.getfield 68, 3), (.iload 4, 2), (.iaload, 1), (.sipush 800, 3), (.isub, 1), (.ireturn, 1), (.aload_n 0, 1), (.getfield 71, 3), (.iload 4, 2), (.iaload, 1), (.istore_n 1, 1), (.iinc 4 1, 3), (.goto (-70), 3), (.aload_n 0, 1), (.getfield 62, 3), (.iconst 4, 1), (.iload 4, 2), (.sipush 200, 3), (.isub, 1), (.iastore, 1), (.iload_n 3, 1), (.ifCond .le 23, 3), (.aload_n 0, 1), (.getfield 68, 3), (.aload_n 0, 1), (.getfield 89, 3), (.iload_n 3, 1), (.iconst 1, 1), (.isub, 1), (.iaload, 1), (.iaload, 1), (.sipush 800, 3), (.isub, 1), (.goto 4, 3), (.iconst (-1), 1), (.ireturn, 1)])
def m_M_moved : jw_M := (({ cls := "TemplateEngineModel", name := "moved", desc := "(II)I" } : Jvm.MethodName), prog_14_method_31_code, 3, (Option.some Jvm.ClassFile.FieldType.int), jt_b [(.iload_n 1, 1), (.ifCond .ge 7, 3), (.iconst (-1), 1), (.goto 6, 3), (.iload_n 1, 1), (.iload_n 2, 1), (.iadd, 1), (.ireturn, 1)])
def m_M_compile : jw_M := (({ cls := "TemplateEngineModel", name := "compile", desc := "(I)I" } : Jvm.MethodName), prog_14_method_32_code, 7, (Option.some Jvm.ClassFile.FieldType.int), jt_b [(.iload_n 1, 1), (.ifCond .lt 8, 3), (.iload_n 1, 1), (.iconst 3, 1), (.if_icmp .le 9, 3), (.aload_n 0, 1), (.iconst 1, 1), (.invokevirtual 158, 3), (.ireturn, 1), (.aload_n 0, 1), (.getfield 16, 3), (.istore_n 2, 1), (.aload_n 0, 1), (.aload_n 0, 1), (.invokevirtual 275, 3), (.putfield 19, 3), (.aload_n 0, 1), (.iconst 0, 1), (.putfield 16, 3), (.aload_n 0, 1), (.getfield 19, 3), (.ifCond .lt 9, 3), (.aload_n 0, 1), (.iconst 2, 1), (.invokevirtual 158, 3), (.ireturn, 1), (.iload_n 1, 1), (.sipush 200, 3), (.imul, 1), (.sipush 800, 3), (.isub, 1), (.istore_n 3, 1), (.iload_n 1, 1), (.bipush 50, 2), (.imul, 1), (.sipush 200, 3), (.isub, 1), (.istore 4, 2), (.iconst 0, 1), (.istore 5, 2), (.iload 5, 2), (.iload_n 2, 1), (.if_icmp .ge 33, 3), (.aload_n 0, 1), (.getfield 56, 3), (.iload_n 1, 1), (.sipush 200, 3), (.imul, 1), (.iload 5, 2), (.iadd, 1), (.aload_n 0, 1), (.getfield 56, 3), (.sipush 800, 3), (.iload 5, 2), (.iadd, 1), (.caload, 1), (.castore, 1), (.iinc 5 1, 3), (.goto (-33), 3), (.sipush 200, 3), (.istore 5, 2), (.iload 5, 2), (.sipush 200, 3), (.aload_n 0, 1), (.getfield 62, 3), (.iconst 4, 1), (.iaload, 1), (.iadd, 1), (.if_icmp .ge 134, 3), (.iload 5, 2), (.iload 4, 2), (.iadd, 1), (.istore 6, 2), (.aload_n 0, 1), (.getfield 68, 3), (.iload 6, 2), (.aload_n 0, 1), (.getfield 68, 3), (.iload 5, 2), (.iaload, 1), (.iload_n 3, 1), (.iadd, 1), (.iastore, 1), (.aload_n 0, 1), (.getfield 71, 3), (.iload 6, 2), (.aload_n 0, 1), (.getfield 71, 3), (.iload 5, 2), (.iaload, 1), (.iload_n 3, 1), (.iadd, 1), (.iastore, 1), (.aload_n 0, 1), (.getfield 74, 3), (.iload 6, 2), (.aload_n 0, 1), (.getfield 74, 3), (.iload 5, 2), (.iaload, 1), (.iload_n 3, 1), (.iadd, 1), (.iastore, 1), (.aload_n 0, 1), (.getfield 77, 3), (.iload 6, 2), (.aload_n 0, 1), (.getfield 77, 3), (.iload 5, 2), (.iaload, 1), (.iload_n 3, 1), (.iadd, 1), (.iastore, 1), (.aload_n 0, 1), (.getfield 80, 3), (.iload 6, 2), (.aload_n 0, 1), (.getfield 80, 3), (.iload 5, 2), (.iaload, 1), (.iastore, 1), (.aload_n 0, 1), (.getfield 83, 3), (.iload 6, 2), (.aload_n 0, 1), (.aload_n 0, 1), (.getfield 83, 3), (.iload 5, 2), (.iaload, 1), (.iload 4, 2), (.invokevirtual 279, 3), (.iastore, 1), (.aload_n 0, 1), (.getfield 86, 3), (.iload 6, 2), (.aload_n 0, 1), (.aload_n 0, 1), (.getfield 86, 3), (.iload 5, 2), (.iaload, 1), (.iload 4, 2), (.invokevirtual 279, 3), (.iastore, 1), (.iinc 5 1, 3), (.goto (-143), 3), (.aload_n 0, 1), (.getfield 59, 3), (.iload_n 1, 1), (.iload_n 2, 1), (.iastore, 1), (.aload_n 0, 1), (.getfield 62, 3), (.iload_n 1, 1), (.aload_n 0, 1), (.getfield 62, 3), (.iconst 4, 1), (.iaload, 1), (.iastore, 1), (.aload_n 0, 1), (.getfield 65, 3), (.iload_n 1, 1), (.iconst 1, 1), (.bastore, 1), (.aload_n 0, 1), (.aload_n 0, 1), (.getfield 62, 3), (.iload_n 1, 1), (.iaload, 1), (.invokevirtual 162, 3), (.ireturn, 1)])
def m_M_errorAt : jw_M := (({ cls := "TemplateEngineModel", name := "errorAt", desc := "()I" } : Jvm.MethodName), prog_14_method_33_code, 1, (Option.some Jvm.ClassFile.FieldType.int), jt_b [(.aload_n 0, 1), (.aload_n 0, 1), (.getfield 19, 3), (.invokevirtual 162, 3), (.ireturn, 1)])
def m_M_nothing : jw_M := (({ cls := "TemplateEngineModel", name := "nothing", desc := "(I)V" } : Jvm.MethodName), prog_14_method_34_code, 2, (Option.none : Option Jvm.ClassFile.FieldType), jt_b [(.aload_n 0, 1), (.getfield 92, 3), (.iload_n 1, 1), (.iconst (-1), 1), (.iastore, 1), (.return_, 1)])
def m_M_setNumber : jw_M := (({ cls := "TemplateEngineModel", name := "setNumber", desc := "(II)V" } : Jvm.MethodName), prog_14_method_35_code, 3, (Option.none : Option Jvm.ClassFile.FieldType), jt_b [(.aload_n 0, 1), (.getfield 92, 3), (.iload_n 1, 1), (.iconst 0, 1), (.iastore, 1), (.aload_n 0, 1), (.getfield 95, 3), (.iload_n 1, 1), (.iload_n 2, 1), (.iastore, 1), (.return_, 1)])
def m_M_dataLetter : jw_M := (({ cls := "TemplateEngineModel", name := "dataLetter", desc := "(II)I" } : Jvm.MethodName), prog_14_method_36_code, 3, (Option.some Jvm.ClassFile.FieldType.int), jt_b [(.aload_n 0, 1), (.getfield 42, 3), (.iload_n 1, 1), (.bipush 50, 2), (.imul, 1), (.iload_n 2, 1), (.iconst 4, 1), (.idiv, 1), (.iadd, 1), (.iaload, 1), (.bipush 8, 2), (.iload_n 2, 1), (.iconst 4, 1), (.irem, 1), (.imul, 1), (.ishr, 1), (.sipush 255, 3), (.iand, 1), (.ireturn, 1)])
def m_M_load : jw_M := (({ cls := "TemplateEngineModel", name := "load", desc := "(II)V" } : Jvm.MethodName), prog_14_method_37_code, 4, (Option.none : Option Jvm.ClassFile.FieldType), jt_b [(.aload_n 0, 1), (.getfield 92, 3), (.iload_n 1, 1), (.aload_n 0, 1), (.getfield 35, 3), (.iload_n 2, 1), (.iaload, 1), (.iastore, 1), (.aload_n 0, 1), (.getfield 95, 3), (.iload_n 1, 1), (.aload_n 0, 1), (.getfield 35, 3), (.iload_n 2, 1), (.iaload, 1), (.ifCond .ne 12, 3), (.aload_n 0, 1), (.getfield 39, 3), (.iload_n 2, 1), (.iaload, 1), (.goto 4, 3), (.iload_n 2, 1), (.iastore, 1), (.aload_n 0, 1), (.getfield 35, 3), (.iload_n 2, 1), (.iaload, 1), (.iconst 1, 1), (.if_icmp .eq 4, 3), (.return_, 1), (.aload_n 0, 1), (.getfield 98, 3), (.iload_n 1, 1), (.aload_n 0, 1), (.getfield 39, 3), (.iload_n 2, 1), (.iaload, 1), (.iastore, 1), (.iconst 0, 1), (.istore_n 3, 1), (.iload_n 3, 1), (.aload_n 0, 1), (.getfield 98, 3), (.iload_n 1, 1), (.iaload, 1), (.if_icmp .ge 28, 3), (.aload_n 0, 1), (.getfield 101, 3), (.iload_n 1, 1), (.sipush 400, 3), (.imul, 1), (.iload_n 3, 1), (.iadd, 1), (.aload_n 0, 1), (.iload_n 2, 1), (.iload_n 3, 1), (.invokevirtual 282, 3), (.i2c, 1), (.castore, 1), (.iinc 3 1, 3), (.goto (-32), 3), (.return_, 1)])
def m_M_copy : jw_M := (({ cls := "TemplateEngineModel", name := "copy", desc := "(II)V" } : Jvm.MethodName), prog_14_method_38_code, 4, (Option.none : Option Jvm.ClassFile.FieldType), jt_b [(.aload_n 0, 1), (.getfield 92, 3), (.iload_n 1, 1), (.aload_n 0, 1), (.getfield 92, 3), (.iload_n 2, 1), (.iaload, 1), (.iastore, 1), (.aload_n 0, 1), (.getfield 95, 3), (.iload_n 1, 1), (.aload_n 0, 1), (.getfield 95, 3), (.iload_n 2, 1), (.iaload, 1), (.iastore, 1), (.aload_n 0, 1), (.getfield 98, 3), (.iload_n 1, 1), (.aload_n 0, 1), (.getfield 98, 3), (.iload_n 2, 1), (.iaload, 1), (.iastore, 1), (.iconst 0, 1), (.istore_n 3, 1), (.iload_n 3, 1), (.aload_n 0, 1), (.getfield 98, 3), (.iload_n 2, 1), (.iaload, 1), (.if_icmp .ge 43, 3), (.aload_n 0, 1), (.getfield 92, 3), (.iload_n 2, 1), (.iaload, 1), (.iconst 1, 1), (.if_icmp .ne 33, 3), (.aload_n 0, 1), (.getfield 101, 3), (.iload_n 1, 1), (.sipush 400, 3), (.imul, 1), (.iload_n 3, 1), (.iadd, 1), (.aload_n 0, 1), (.getfield 101, 3), (.iload_n 2, 1), (.sipush 400, 3), (.imul, 1), (.iload_n 3, 1), (.iadd, 1), (.caload, 1), (.castore, 1), (.iinc 3 1, 3), (.goto (-47), 3), (.return_, 1)])
def m_M_rawPut : jw_M := (({ cls := "TemplateEngineModel", name := "rawPut", desc := "(I)V" } : Jvm.MethodName), prog_14_method_39_code, 2, (Option.none : Option Jvm.ClassFile.FieldType), jt_b [(.aload_n 0, 1), (.getfield 113, 3), (.sipush 401, 3), (.if_icmp .ge 14, 3), (.aload_n 0, 1), (.getfield 104, 3), (.aload_n 0, 1), (.getfield 113, 3), (.iload_n 1, 1), (.i2c, 1), (.castore, 1), (.aload_n 0, 1), (.getfield 113, 3), (.sipush 401, 3), (.if_icmp .ge 13, 3), (.aload_n 0, 1), (.dup, 1), (.getfield 113, 3), (.iconst 1, 1), (.iadd, 1), (.putfield 113, 3), (.return_, 1)])
def m_M_rawNumber : jw_M := (({ cls := "TemplateEngineModel", name := "rawNumber", desc := "(I)V" } : Jvm.MethodName), prog_14_method_40_code, 6, (Option.none : Option Jvm.ClassFile.FieldType), jt_b [(.iload_n 1, 1), (.ifCond .ge 9, 3), (.iload_n 1, 1), (.i2l, 1), (.lneg, 1), (.goto 5, 3), (.iload_n 1, 1), (.i2l, 1), (.lstore_n 2, 1), (.lconst 1, 1), (.lstore 4, 2), (.iload_n 1, 1), (.ifCond .ge 9, 3), (.aload_n 0, 1), (.bipush 45, 2), (.invokevirtual 285, 3), (.lload_n 2, 1), (.lload 4, 2), (.ldiv, 1), (.ldc2_w 289, 3), (.lcmp, 1), (.ifCond .le 14, 3), (.lload 4, 2), (.ldc2_w 291, 3), (.lmul, 1), (.lstore 4, 2), (.goto (-19), 3), (.lload 4, 2), (.lconst 0, 1), (.lcmp, 1), (.ifCond .le 31, 3), (.aload_n 0, 1), (.ldc2_w 293, 3), (.lload_n 2, 1), (.lload 4, 2), (.ldiv, 1), (.ldc2_w 291, 3), (.lrem, 1), (.ladd, 1), (.l2i, 1), (.invokevirtual 285, 3), (.lload 4, 2), (.ldc2_w 291, 3), (.ldiv, 1), (.lstore 4, 2), (.goto (-32), 3), (.return_, 1)])
def m_M_rawMap : jw_M := (({ cls := "TemplateEngineModel", name := "rawMap", desc := "()V" } : Jvm.MethodName), prog_14_method_41_code, 1, (Option.none : Option Jvm.ClassFile.FieldType), jt_b [(.aload_n 0, 1), (.bipush 91, 2), (.invokevirtual 285, 3), (.aload_n 0, 1), (.bipush 109, 2), (.invokevirtual 285, 3), (.aload_n 0, 1), (.bipush 97, 2), (.invokevirtual 285, 3), (.aload_n 0, 1), (.bipush 112, 2), (.invokevirtual 285, 3), (.aload_n 0, 1), (.bipush 93, 2), (.invokevirtual 285, 3), (.return_, 1)])
def m_M_rawData : jw_M := (({ cls := "TemplateEngineModel", name := "rawData", desc := "(I)V" } : Jvm.MethodName), prog_14_method_42_code, 3, (Option.none : Option Jvm.ClassFile.FieldType), jt_b [(.aload_n 0, 1), (.getfield 35, 3), (.iload_n 1, 1), (.iaload, 1), (.ifCond .ne 13, 3), (.aload_n 0, 1), (.aload_n 0, 1), (.getfield 39, 3), (.iload_n 1, 1), (.iaload, 1), (.invokevirtual 295, 3), (.aload_n 0, 1), (.getfield 35, 3), (.iload_n 1, 1), (.iaload, 1), (.iconst 1, 1), (.if_icmp .ne 31, 3), (.iconst 0, 1), (.istore_n 2, 1), (.iload_n 2, 1), (.aload_n 0, 1), (.getfield 39, 3), (.iload_n 1, 1), (.iaload, 1), (.if_icmp .ge 19, 3), (.aload_n 0, 1), (.aload_n 0, 1), (.iload_n 1, 1), (.iload_n 2, 1), (.invokevirtual 282, 3), (.invokevirtual 285, 3), (.iinc 2 1, 3), (.goto (-23), 3), (.aload_n 0, 1), (.getfield 35, 3), (.iload_n 1, 1), (.iaload, 1), (.iconst 3, 1), (.if_icmp .ne 7, 3), (.aload_n 0, 1), (.invokevirtual 298, 3), (.aload_n 0, 1), (.getfield 35, 3), (.iload_n 1, 1), (.iaload, 1), (.iconst 2, 1), (.if_icmp .eq 4, 3), (.return_, 1), (.aload_n 0, 1), (.getfield 146, 3), (.aload_n 0, 1), (.getfield 131, 3), (.iload_n 1, 1), (.iastore, 1), (.aload_n 0, 1), (.getfield 149, 3), (.aload_n 0, 1), (.getfield 131, 3), (.iconst 0, 1), (.iastore, 1), (.aload_n 0, 1), (.dup, 1), (.getfield 131, 3), (.iconst 1, 1), (.iadd, 1), (.putfield 131, 3), (.return_, 1)])
def m_M_showRaw : jw_M := (({ cls := "TemplateEngineModel", name := "showRaw", desc := "(I)V" } : Jvm.MethodName), prog_14_method_43_code, 5, (Option.none : Option Jvm.ClassFile.FieldType), jt_b [(.aload_n 0, 1), (.iconst 0, 1), (.putfield 113, 3), (.aload_n 0, 1), (.iconst 0, 1), (.putfield 131, 3), (.aload_n 0, 1), (.getfield 92, 3), (.iload_n 1, 1), (.iaload, 1), (.ifCond .ne 13, 3), (.aload_n 0, 1), (.aload_n 0, 1), (.getfield 95, 3), (.iload_n 1, 1), (.iaload, 1), (.invokevirtual 295, 3), (.aload_n 0, 1), (.getfield 92, 3), (.iload_n 1, 1), (.iaload, 1), (.iconst 1, 1), (.if_icmp .ne 37, 3), (.iconst 0, 1), (.istore_n 2, 1), (.iload_n 2, 1), (.aload_n 0, 1), (.getfield 98, 3), (.iload_n 1, 1), (.iaload, 1), (.if_icmp .ge 25, 3), (.aload_n 0, 1), (.aload_n 0, 1), (.getfield 101, 3), (.iload_n 1, 1), (.sipush 400, 3), (.imul, 1), (.iload_n 2, 1), (.iadd, 1), (.caload, 1), (.invokevirtual 285, 3), (.iinc 2 1, 3), (.goto (-29), 3), (.aload_n 0, 1), (.getfield 92, 3), (.iload_n 1, 1), (.iaload, 1), (.iconst 1, 1), (.if_icmp .le 13, 3), (.aload_n 0, 1), (.aload_n 0, 1), (.getfield 95, 3), (.iload_n 1, 1), (.iaload, 1), (.invokevirtual 301, 3), (.aload_n 0, 1), (.getfield 131, 3), (.ifCond .le 99, 3), (.aload_n 0, 1), (.getfield 113, 3), (.sipush 401, 3), (.if_icmp .ge 89, 3), (.aload_n 0, 1), (.getfield 131, 3), (.iconst 1, 1), (.isub, 1), (.istore_n 2, 1), (.aload_n 0, 1), (.getfield 146, 3), (.iload_n 2, 1), (.iaload, 1), (.istore_n 3, 1), (.aload_n 0, 1), (.getfield 149, 3), (.iload_n 2, 1), (.iaload, 1), (.istore 4, 2), (.iload 4, 2), (.aload_n 0, 1), (.getfield 39, 3), (.iload_n 3, 1), (.iaload, 1), (.if_icmp .ne 16, 3), (.aload_n 0, 1), (.dup, 1), (.getfield 131, 3), (.iconst 1, 1), (.isub, 1), (.putfield 131, 3), (.goto (-60), 3), (.iload 4, 2), (.ifCond .le 9, 3), (.aload_n 0, 1), (.bipush 44, 2), (.invokevirtual 285, 3), (.aload_n 0, 1), (.getfield 149, 3), (.iload_n 2, 1), (.dup2, 1), (.iaload, 1), (.iconst 1, 1), (.iadd, 1), (.iastore, 1), (.aload_n 0, 1), (.aload_n 0, 1), (.getfield 45, 3), (.iload_n 3, 1), (.bipush 10, 2), (.imul, 1), (.iload 4, 2), (.iadd, 1), (.iaload, 1), (.invokevirtual 301, 3), (.goto (-100), 3), (.aload_n 0, 1), (.getfield 113, 3), (.sipush 400, 3), (.if_icmp .le 8, 3), (.aload_n 0, 1), (.iconst 4, 1), (.putfield 128, 3), (.return_, 1)])
def m_M_lengthOf : jw_M := (({ cls := "TemplateEngineModel", name := "lengthOf", desc := "(I)I" } : Jvm.MethodName), prog_14_method_44_code, 2, (Option.some Jvm.ClassFile.FieldType.int), jt_b [(.aload_n 0, 1), (.getfield 92, 3), (.iload_n 1, 1), (.iaload, 1), (.ifCond .ge 5, 3), (.iconst 0, 1), (.ireturn, 1), (.aload_n 0, 1), (.getfield 92, 3), (.iload_n 1, 1), (.iaload, 1), (.iconst 1, 1), (.if_icmp .ne 10, 3), (.aload_n 0, 1), (.getfield 98, 3), (.iload_n 1, 1), (.iaload, 1), (.ireturn, 1), (.aload_n 0, 1), (.getfield 92, 3), (.iload_n 1, 1), (.iaload, 1), (.iconst 1, 1), (.if_icmp .le 15, 3), (.aload_n 0, 1), (.getfield 39, 3), (.aload_n 0, 1), (.getfield 95, 3), (.iload_n 1, 1), (.iaload, 1), (.iaload, 1), (.ireturn, 1), (.aload_n 0, 1), (.iload_n 1, 1), (.invokevirtual 304, 3), (.aload_n 0, 1), (.getfield 113, 3), (.ireturn, 1)])
def m_M_isFalse : jw_M := (({ cls := "TemplateEngineModel", name := "isFalse", desc := "(I)Z" } : Jvm.MethodName), prog_14_method_45_code, 2, (Option.some Jvm.ClassFile.FieldType.boolean), jt_b [(.aload_n 0, 1), (.getfield 92, 3), (.iload_n 1, 1), (.iaload, 1), (.ifCond .lt 49, 3), (.aload_n 0, 1), (.getfield 92, 3), (.iload_n 1, 1), (.iaload, 1), (.ifCond .ne 12, 3), (.aload_n 0, 1), (.getfield 95, 3), (.iload_n 1, 1), (.iaload, 1), (.ifCond .eq 31, 3), (.aload_n 0, 1), (.getfield 92, 3), (.iload_n 1, 1), (.iaload, 1), (.iconst 1, 1), (.if_icmp .eq 13, 3), (.aload_n 0, 1), (.getfield 92, 3), (.iload_n 1, 1), (.iaload, 1), (.iconst 2, 1), (.if_icmp .ne 15, 3), (.aload_n 0, 1), (.iload_n 1, 1), (.invokevirtual 307, 3), (.ifCond .ne 7, 3), (.iconst 1, 1), (.goto 4, 3), (.iconst 0, 1), (.ireturn, 1)])
def m_M_element : jw_M := (({ cls := "TemplateEngineModel", name := "element", desc := "(II)V" } : Jvm.MethodName), prog_14_method_46_code, 3, (Option.none : Option Jvm.ClassFile.FieldType), jt_b [(.aload_n 0, 1), (.getfield 92, 3), (.iload_n 1, 1), (.iaload, 1), (.iconst 2, 1), (.if_icmp .ne 22, 3), (.iload_n 2, 1), (.ifCond .lt 18, 3), (.iload_n 2, 1), (.aload_n 0, 1), (.getfield 39, 3), (.aload_n 0, 1), (.getfield 95, 3), (.iload_n 1, 1), (.iaload, 1), (.iaload, 1), (.if_icmp .lt 11, 3), (.aload_n 0, 1), (.iload_n 1, 1), (.invokevirtual 310, 3), (.goto 24, 3), (.aload_n 0, 1), (.iload_n 1, 1), (.aload_n 0, 1), (.getfield 45, 3), (.aload_n 0, 1), (.getfield 95, 3), (.iload_n 1, 1), (.iaload, 1), (.bipush 10, 2), (.imul, 1), (.iload_n 2, 1), (.iadd, 1), (.iaload, 1), (.invokevirtual 313, 3), (.return_, 1)])
def m_M_member : jw_M := (({ cls := "TemplateEngineModel", name := "member", desc := "(III)V" } : Jvm.MethodName), prog_14_method_47_code, 7, (Option.none : Option Jvm.ClassFile.FieldType), jt_b [(.lconst 0, 1), (.lstore 4, 2), (.iload_n 2, 1), (.istore 6, 2), (.iload 6, 2), (.iload_n 2, 1), (.iload_n 3, 1), (.iadd, 1), (.if_icmp .ge 30, 3), (.lload 4, 2), (.ldc2_w 180, 3), (.lmul, 1), (.aload_n 0, 1), (.getfield 56, 3), (.iload 6, 2), (.caload, 1), (.i2l, 1), (.ladd, 1), (.ldc2_w 182, 3), (.lsub, 1), (.lstore 4, 2), (.iinc 6 1, 3), (.goto (-32), 3), (.aload_n 0, 1), (.getfield 92, 3), (.iload_n 1, 1), (.iaload, 1), (.iconst 3, 1), (.if_icmp .ne 18, 3), (.aload_n 0, 1), (.aload_n 0, 1), (.getfield 95, 3), (.iload_n 1, 1), (.iaload, 1), (.lload 4, 2), (.invokevirtual 188, 3), (.goto 4, 3), (.iconst (-1), 1), (.istore 6, 2), (.iload 6, 2), (.ifCond .ge 11, 3), (.aload_n 0, 1), (.iload_n 1, 1), (.invokevirtual 310, 3), (.goto 25, 3), (.aload_n 0, 1), (.iload_n 1, 1), (.aload_n 0, 1), (.getfield 45, 3), (.aload_n 0, 1), (.getfield 95, 3), (.iload_n 1, 1), (.iaload, 1), (.bipush 10, 2), (.imul, 1), (.iload 6, 2), (.iadd, 1), (.iaload, 1), (.invokevirtual 313, 3), (.return_, 1)])
def m_M_loop : jw_M := (({ cls := "TemplateEngineModel", name := "loop", desc := "()I" } : Jvm.MethodName), prog_14_method_48_code, 2, (Option.some Jvm.ClassFile.FieldType.int), jt_b [(.aload_n 0, 1), (.getfield 125, 3), (.iconst 1, 1), (.isub, 1), (.istore_n 1, 1), (.iload_n 1, 1), (.ifCond .lt 46, 3), (.aload_n 0, 1), (.getfield 155, 3), (.iload_n 1, 1), (.baload, 1), (.ifCond .eq 5, 3), (.iconst (-1), 1), (.ireturn, 1), (.aload_n 0, 1), (.getfield 80, 3), (.aload_n 0, 1), (.getfield 137, 3), (.iload_n 1, 1), (.iaload, 1), (.iaload, 1), (.iconst 4, 1), (.if_icmp .ne 14, 3), (.aload_n 0, 1), (.getfield 152, 3), (.iload_n 1, 1), (.baload, 1), (.ifCond .ne 5, 3), (.iload_n 1, 1), (.ireturn, 1), (.iinc 1 (-1), 3), (.goto (-44), 3), (.iconst (-1), 1), (.ireturn, 1)])
def m_M_path : jw_M := (({ cls := "TemplateEngineModel", name := "path", desc := "(III)V" } : Jvm.MethodName), prog_14_method_49_code, 7, (Option.none : Option Jvm.ClassFile.FieldType), jt_b [(.aload_n 0, 1), (.getfield 56, 3), (.iload_n 2, 1), (.caload, 1), (.bipush 64, 2), (.if_icmp .ne 66, 3), (.aload_n 0, 1), (.invokevirtual 317, 3), (.istore 4, 2), (.iload 4, 2), (.ifCond .ge 11, 3), (.aload_n 0, 1), (.iload_n 1, 1), (.invokevirtual 310, 3), (.goto 46, 3), (.aload_n 0, 1), (.iload_n 1, 1), (.aload_n 0, 1), (.getfield 56, 3), (.iload_n 2, 1), (.iconst 1, 1), (.iadd, 1), (.caload, 1), (.bipush 105, 2), (.if_icmp .ne 13, 3), (.aload_n 0, 1), (.getfield 140, 3), (.iload 4, 2), (.iaload, 1), (.goto 18, 3), (.aload_n 0, 1), (.getfield 140, 3), (.iload 4, 2), (.iaload, 1), (.ifCond .ne 7, 3), (.iconst 1, 1), (.goto 4, 3), (.iconst 0, 1), (.invokevirtual 320, 3), (.return_, 1), (.iconst 0, 1), (.istore 4, 2), (.iload_n 2, 1), (.istore 5, 2), (.aload_n 0, 1), (.iload 5, 2), (.iload_n 3, 1), (.ldc2_w 205, 3), (.invokevirtual 199, 3), (.ifCond .eq 12, 3), (.iinc 5 3, 3), (.iinc 4 1, 3), (.goto (-19), 3), (.iload 4, 2), (.aload_n 0, 1), (.getfield 122, 3), (.if_icmp .lt 11, 3), (.aload_n 0, 1), (.iload_n 1, 1), (.invokevirtual 310, 3), (.goto 17, 3), (.aload_n 0, 1), (.iload_n 1, 1), (.iconst 2, 1), (.aload_n 0, 1), (.getfield 122, 3), (.iadd, 1), (.iload 4, 2), (.isub, 1), (.invokevirtual 323, 3), (.aload_n 0, 1), (.iload 5, 2), (.iload_n 3, 1), (.invokevirtual 207, 3), (.istore 6, 2), (.iload 6, 2), (.iconst 4, 1), (.if_icmp .ne 31, 3), (.aload_n 0, 1), (.iload 5, 2), (.iload_n 3, 1), (.ldc2_w 210, 3), (.invokevirtual 199, 3), (.ifCond .eq 18, 3), (.aload_n 0, 1), (.iload 5, 2), (.iconst 4, 1), (.iadd, 1), (.iload_n 3, 1), (.invokevirtual 194, 3), (.bipush 46, 2), (.if_icmp .eq 4, 3), (.return_, 1), (.aload_n 0, 1), (.iload_n 1, 1), (.iload 5, 2), (.iload 6, 2), (.invokevirtual 326, 3), (.iload 5, 2), (.iload 6, 2), (.iadd, 1), (.istore 5, 2), (.aload_n 0, 1), (.iload 5, 2), (.iload_n 3, 1), (.invokevirtual 194, 3), (.bipush 46, 2), (.if_icmp .ne 65, 3), (.aload_n 0, 1), (.iload 5, 2), (.iconst 1, 1), (.iadd, 1), (.iload_n 3, 1), (.invokevirtual 207, 3), (.istore 6, 2), (.iload 6, 2), (.ifCond .le 17, 3), (.aload_n 0, 1), (.iload_n 1, 1), (.iload 5, 2), (.iconst 1, 1), (.iadd, 1), (.iload 6, 2), (.invokevirtual 326, 3), (.goto 23, 3), (.iconst 1, 1), (.istore 6, 2), (.aload_n 0, 1), (.iload_n 1, 1), (.aload_n 0, 1), (.getfield 56, 3), (.iload 5, 2), (.iconst 1, 1), (.iadd, 1), (.caload, 1), (.bipush 48, 2), (.isub, 1), (.invokevirtual 330, 3), (.iload 5, 2), (.iconst 1, 1), (.iload 6, 2), (.iadd, 1), (.iadd, 1), (.istore 5, 2), (.goto (-71), 3), (.return_, 1)])
def m_M_operand : jw_M := (({ cls := "TemplateEngineModel", name := "operand", desc := "(III)V" } : Jvm.MethodName), prog_14_method_50_code, 6, (Option.none : Option Jvm.ClassFile.FieldType), jt_b [(.aload_n 0, 1), (.getfield 56, 3), (.iload_n 2, 1), (.caload, 1), (.bipush 34, 2), (.if_icmp .ne 68, 3), (.aload_n 0, 1), (.getfield 92, 3), (.iload_n 1, 1), (.iconst 1, 1), (.iastore, 1), (.aload_n 0, 1), (.getfield 98, 3), (.iload_n 1, 1), (.iload_n 3, 1), (.iload_n 2, 1), (.isub, 1), (.iconst 2, 1), (.isub, 1), (.iastore, 1), (.iconst 0, 1), (.istore 4, 2), (.iload 4, 2), (.aload_n 0, 1), (.getfield 98, 3), (.iload_n 1, 1), (.iaload, 1), (.if_icmp .ge 33, 3), (.aload_n 0, 1), (.getfield 101, 3), (.iload_n 1, 1), (.sipush 400, 3), (.imul, 1), (.iload 4, 2), (.iadd, 1), (.aload_n 0, 1), (.getfield 56, 3), (.iload_n 2, 1), (.iconst 1, 1), (.iadd, 1), (.iload 4, 2), (.iadd, 1), (.caload, 1), (.castore, 1), (.iinc 4 1, 3), (.goto (-38), 3), (.goto 69, 3), (.aload_n 0, 1), (.aload_n 0, 1), (.getfield 56, 3), (.iload_n 2, 1), (.caload, 1), (.invokevirtual 212, 3), (.ifCond .eq 49, 3), (.iconst 0, 1), (.istore 4, 2), (.iload_n 2, 1), (.istore 5, 2), (.iload 5, 2), (.iload_n 3, 1), (.if_icmp .ge 27, 3), (.iload 4, 2), (.bipush 10, 2), (.imul, 1), (.aload_n 0, 1), (.getfield 56, 3), (.iload 5, 2), (.caload, 1), (.iadd, 1), (.bipush 48, 2), (.isub, 1), (.istore 4, 2), (.iinc 5 1, 3), (.goto (-27), 3), (.aload_n 0, 1), (.iload_n 1, 1), (.iload 4, 2), (.invokevirtual 320, 3), (.goto 10, 3), (.aload_n 0, 1), (.iload_n 1, 1), (.iload_n 2, 1), (.iload_n 3, 1), (.invokevirtual 333, 3), (.return_, 1)])
def m_M_upper : jw_M := (({ cls := "TemplateEngineModel", name := "upper", desc := "()V" } : Jvm.MethodName), prog_14_method_51_code, 2, (Option.none : Option Jvm.ClassFile.FieldType), jt_b [(.aload_n 0, 1), (.iconst 0, 1), (.invokevirtual 304, 3), (.aload_n 0, 1), (.getfield 92, 3), (.iconst 2, 1), (.iconst 1, 1), (.iastore, 1), (.aload_n 0, 1), (.getfield 98, 3), (.iconst 2, 1), (.aload_n 0, 1), (.getfield 113, 3), (.sipush 400, 3), (.if_icmp .le 9, 3), (.sipush 400, 3), (.goto 7, 3), (.aload_n 0, 1), (.getfield 113, 3), (.iastore, 1), (.iconst 0, 1), (.istore_n 1, 1), (.iload_n 1, 1), (.aload_n 0, 1), (.getfield 98, 3), (.iconst 2, 1), (.iaload, 1), (.if_icmp .ge 51, 3), (.aload_n 0, 1), (.getfield 101, 3), (.sipush 800, 3), (.iload_n 1, 1), (.iadd, 1), (.aload_n 0, 1), (.aload_n 0, 1), (.getfield 104, 3), (.iload_n 1, 1), (.caload, 1), (.invokevirtual 177, 3), (.ifCond .eq 16, 3), (.aload_n 0, 1), (.getfield 104, 3), (.iload_n 1, 1), (.caload, 1), (.bipush 32, 2), (.isub, 1), (.i2c, 1), (.goto 9, 3), (.aload_n 0, 1), (.getfield 104, 3), (.iload_n 1, 1), (.caload, 1), (.castore, 1), (.iinc 1 1, 3), (.goto (-55), 3), (.return_, 1)])
def m_M_alike : jw_M := (({ cls := "TemplateEngineModel", name := "alike", desc := "()Z" } : Jvm.MethodName), prog_14_method_52_code, 3, (Option.some Jvm.ClassFile.FieldType.boolean), jt_b [(.aload_n 0, 1), (.iconst 0, 1), (.invokevirtual 304, 3), (.aload_n 0, 1), (.getfield 113, 3), (.istore_n 1, 1), (.aload_n 0, 1), (.getfield 128, 3), (.ifCond .eq 5, 3), (.iconst 0, 1), (.ireturn, 1), (.iconst 0, 1), (.istore_n 2, 1), (.iload_n 2, 1), (.iload_n 1, 1), (.if_icmp .ge 25, 3), (.aload_n 0, 1), (.getfield 101, 3), (.sipush 800, 3), (.iload_n 2, 1), (.iadd, 1), (.aload_n 0, 1), (.getfield 104, 3), (.iload_n 2, 1), (.caload, 1), (.castore, 1), (.iinc 2 1, 3), (.goto (-24), 3), (.aload_n 0, 1), (.iconst 1, 1), (.invokevirtual 304, 3), (.iload_n 1, 1), (.aload_n 0, 1), (.getfield 113, 3), (.if_icmp .eq 5, 3), (.iconst 0, 1), (.ireturn, 1), (.iconst 0, 1), (.istore_n 2, 1), (.iload_n 2, 1), (.iload_n 1, 1), (.if_icmp .ge 30, 3), (.aload_n 0, 1), (.getfield 101, 3), (.sipush 800, 3), (.iload_n 2, 1), (.iadd, 1), (.caload, 1), (.aload_n 0, 1), (.getfield 104, 3), (.iload_n 2, 1), (.caload, 1), (.if_icmp .eq 5, 3), (.iconst 0, 1), (.ireturn, 1), (.iinc 2 1, 3), (.goto (-29), 3), (.iconst 1, 1), (.ireturn, 1)])
def m_M_expr : jw_M := (({ cls := "TemplateEngineModel", name := "expr", desc := "(II)V" } : Jvm.MethodName), prog_14_method_53_code, 6, (Option.none : Option Jvm.ClassFile.FieldType), jt_b [(.aload_n 0, 1), (.iload_n 1, 1), (.iload_n 2, 1), (.invokevirtual 230, 3), (.istore_n 3, 1), (.iload_n 3, 1), (.ifCond .ne 11, 3), (.aload_n 0, 1), (.iconst 2, 1), (.iload_n 1, 1), (.iload_n 2, 1), (.invokevirtual 336, 3), (.return_, 1), (.iload_n 1, 1), (.aload_n 0, 1), (.iload_n 3, 1), (.invokevirtual 236, 3), (.iadd, 1), (.istore 4, 2), (.aload_n 0, 1), (.iload 4, 2), (.iload_n 2, 1), (.invokevirtual 233, 3), (.istore 5, 2), (.aload_n 0, 1), (.iconst 0, 1), (.iload 4, 2), (.iload 5, 2), (.invokevirtual 336, 3), (.iload_n 3, 1), (.iconst 3, 1), (.if_icmp .le 13, 3), (.aload_n 0, 1), (.iconst 1, 1), (.iload 5, 2), (.iconst 1, 1), (.iadd, 1), (.iload_n 2, 1), (.invokevirtual 336, 3), (.iload_n 3, 1), (.iconst 1, 1), (.if_icmp .ne 7, 3), (.aload_n 0, 1), (.invokevirtual 339, 3), (.iload_n 3, 1), (.iconst 2, 1), (.if_icmp .ne 13, 3), (.aload_n 0, 1), (.iconst 2, 1), (.aload_n 0, 1), (.iconst 0, 1), (.invokevirtual 307, 3), (.invokevirtual 320, 3), (.iload_n 3, 1), (.iconst 3, 1), (.if_icmp .ne 21, 3), (.aload_n 0, 1), (.iconst 2, 1), (.aload_n 0, 1), (.iconst 0, 1), (.invokevirtual 342, 3), (.ifCond .eq 7, 3), (.iconst 1, 1), (.goto 4, 3), (.iconst 0, 1), (.invokevirtual 320, 3), (.iload_n 3, 1), (.iconst 5, 1), (.if_icmp .ne 20, 3), (.aload_n 0, 1), (.iconst 2, 1), (.aload_n 0, 1), (.invokevirtual 345, 3), (.ifCond .eq 7, 3), (.iconst 1, 1), (.goto 4, 3), (.iconst 0, 1), (.invokevirtual 320, 3), (.iload_n 3, 1), (.iconst 4, 1), (.if_icmp .ne 42, 3), (.aload_n 0, 1), (.getfield 92, 3), (.iconst 0, 1), (.iaload, 1), (.ifCond .ne 33, 3), (.aload_n 0, 1), (.getfield 92, 3), (.iconst 1, 1), (.iaload, 1), (.ifCond .ne 24, 3), (.aload_n 0, 1), (.iconst 2, 1), (.aload_n 0, 1), (.getfield 95, 3), (.iconst 0, 1), (.iaload, 1), (.aload_n 0, 1), (.getfield 95, 3), (.iconst 1, 1), (.iaload, 1), (.iadd, 1), (.invokevirtual 320, 3), (.goto 13, 3), (.iload_n 3, 1), (.iconst 4, 1), (.if_icmp .ne 8, 3), (.aload_n 0, 1), (.iconst 2, 1), (.invokevirtual 310, 3), (.iload_n 3, 1), (.bipush 6, 2), (.if_icmp .ne 33, 3), (.aload_n 0, 1), (.iconst 2, 1), (.iconst 0, 1), (.invokevirtual 323, 3), (.aload_n 0, 1), (.iconst 2, 1), (.aload_n 0, 1), (.getfield 92, 3), (.iconst 1, 1), (.iaload, 1), (.ifCond .ne 12, 3), (.aload_n 0, 1), (.getfield 95, 3), (.iconst 1, 1), (.iaload, 1), (.goto 4, 3), (.iconst (-1), 1), (.invokevirtual 330, 3), (.return_, 1)])
def m_M_emit : jw_M := (({ cls := "TemplateEngineModel", name := "emit", desc := "(I)V" } : Jvm.MethodName), prog_14_method_54_code, 2, (Option.none : Option Jvm.ClassFile.FieldType), jt_b [(.aload_n 0, 1), (.getfield 116, 3), (.sipush 400, 3), (.if_icmp .ne 11, 3), (.aload_n 0, 1), (.iconst 4, 1), (.putfield 128, 3), (.goto 24, 3), (.aload_n 0, 1), (.getfield 107, 3), (.aload_n 0, 1), (.getfield 116, 3), (.iload_n 1, 1), (.i2c, 1), (.castore, 1), (.aload_n 0, 1), (.dup, 1), (.getfield 116, 3), (.iconst 1, 1), (.iadd, 1), (.putfield 116, 3), (.return_, 1)])
def m_M_emitWord : jw_M := (({ cls := "TemplateEngineModel", name := "emitWord", desc := "(J)V" } : Jvm.MethodName), prog_14_method_55_code, 4, (Option.none : Option Jvm.ClassFile.FieldType), jt_b [(.bipush 56, 2), (.istore_n 3, 1), (.iload_n 3, 1), (.ifCond .lt 33, 3), (.lload_n 1, 1), (.iload_n 3, 1), (.lshr, 1), (.ldc2_w 192, 3), (.land, 1), (.lconst 0, 1), (.lcmp, 1), (.ifCond .eq 15, 3), (.aload_n 0, 1), (.lload_n 1, 1), (.iload_n 3, 1), (.lshr, 1), (.ldc2_w 192, 3), (.land, 1), (.l2i, 1), (.invokevirtual 349, 3), (.iinc 3 (-8), 3), (.goto (-31), 3), (.return_, 1)])
def m_M_show : jw_M := (({ cls := "TemplateEngineModel", name := "show", desc := "(Z)V" } : Jvm.MethodName), prog_14_method_56_code, 4, (Option.none : Option Jvm.ClassFile.FieldType), jt_b [(.aload_n 0, 1), (.iconst 2, 1), (.invokevirtual 304, 3), (.iconst 0, 1), (.istore_n 2, 1), (.iload_n 2, 1), (.aload_n 0, 1), (.getfield 113, 3), (.if_icmp .ge 102, 3), (.aload_n 0, 1), (.getfield 128, 3), (.ifCond .ne 95, 3), (.aload_n 0, 1), (.getfield 104, 3), (.iload_n 2, 1), (.caload, 1), (.istore_n 3, 1), (.iload_n 1, 1), (.ifCond .ne 27, 3), (.iload_n 3, 1), (.bipush 38, 2), (.if_icmp .eq 29, 3), (.iload_n 3, 1), (.bipush 60, 2), (.if_icmp .eq 23, 3), (.iload_n 3, 1), (.bipush 62, 2), (.if_icmp .eq 17, 3), (.iload_n 3, 1), (.bipush 34, 2), (.if_icmp .eq 11, 3), (.aload_n 0, 1), (.iload_n 3, 1), (.invokevirtual 349, 3), (.goto 46, 3), (.aload_n 0, 1), (.iload_n 3, 1), (.bipush 38, 2), (.if_icmp .ne 9, 3), (.ldc2_w 352, 3), (.goto 30, 3), (.iload_n 3, 1), (.bipush 60, 2), (.if_icmp .ne 9, 3), (.ldc2_w 354, 3), (.goto 18, 3), (.iload_n 3, 1), (.bipush 62, 2), (.if_icmp .ne 9, 3), (.ldc2_w 356, 3), (.goto 6, 3), (.ldc2_w 358, 3), (.invokevirtual 360, 3), (.iinc 2 1, 3), (.goto (-104), 3), (.return_, 1)])
def m_M_push : jw_M := (({ cls := "TemplateEngineModel", name := "push", desc := "(IIZZ)V" } : Jvm.MethodName), prog_14_method_57_code, 5, (Option.none : Option Jvm.ClassFile.FieldType), jt_b [(.aload_n 0, 1), (.getfield 134, 3), (.aload_n 0, 1), (.getfield 125, 3), (.iload_n 1, 1), (.iastore, 1), (.aload_n 0, 1), (.getfield 137, 3), (.aload_n 0, 1), (.getfield 125, 3), (.iload_n 2, 1), (.iastore, 1), (.aload_n 0, 1), (.getfield 155, 3), (.aload_n 0, 1), (.getfield 125, 3), (.iload_n 3, 1), (.bastore, 1), (.aload_n 0, 1), (.getfield 152, 3), (.aload_n 0, 1), (.getfield 125, 3), (.iload 4, 2), (.bastore, 1), (.aload_n 0, 1), (.getfield 140, 3), (.aload_n 0, 1), (.getfield 125, 3), (.iconst 0, 1), (.iastore, 1), (.aload_n 0, 1), (.getfield 143, 3), (.aload_n 0, 1), (.getfield 125, 3), (.iconst (-1), 1), (.iastore, 1), (.aload_n 0, 1), (.dup, 1), (.getfield 125, 3), (.iconst 1, 1), (.iadd, 1), (.putfield 125, 3), (.return_, 1)])
def m_M_nextTurn : jw_M := (({ cls := "TemplateEngineModel", name := "nextTurn", desc := "(I)Z" } : Jvm.MethodName), prog_14_method_58_code, 3, (Option.some Jvm.ClassFile.FieldType.boolean), jt_b [(.aload_n 0, 1), (.getfield 143, 3), (.iload_n 1, 1), (.iaload, 1), (.istore_n 2, 1), (.aload_n 0, 1), (.getfield 140, 3), (.iload_n 1, 1), (.iaload, 1), (.aload_n 0, 1), (.getfield 39, 3), (.iload_n 2, 1), (.iaload, 1), (.if_icmp .lt 5, 3), (.iconst 0, 1), (.ireturn, 1), (.aload_n 0, 1), (.iconst 2, 1), (.aload_n 0, 1), (.getfield 122, 3), (.iadd, 1), (.aload_n 0, 1), (.getfield 45, 3), (.iload_n 2, 1), (.bipush 10, 2), (.imul, 1), (.aload_n 0, 1), (.getfield 140, 3), (.iload_n 1, 1), (.iaload, 1), (.iadd, 1), (.iaload, 1), (.invokevirtual 313, 3), (.iconst 1, 1), (.ireturn, 1)])
def m_M_block : jw_M := (({ cls := "TemplateEngineModel", name := "block", desc := "(I)I" } : Jvm.MethodName), prog_14_method_59_code, 4, (Option.some Jvm.ClassFile.FieldType.int), jt_b [(.aload_n 0, 1), (.getfield 80, 3), (.iload_n 1, 1), (.iaload, 1), (.istore_n 2, 1), (.aload_n 0, 1), (.aload_n 0, 1), (.getfield 74, 3), (.iload_n 1, 1), (.iaload, 1), (.iload_n 2, 1), (.iconst 3, 1), (.if_icmp .ne 7, 3), (.iconst 4, 1), (.goto 5, 3), (.bipush 6, 2), (.iadd, 1), (.aload_n 0, 1), (.getfield 77, 3), (.iload_n 1, 1), (.iaload, 1), (.invokevirtual 364, 3), (.aload_n 0, 1), (.getfield 128, 3), (.ifCond .eq 5, 3), (.iconst 0, 1), (.ireturn, 1), (.iload_n 2, 1), (.iconst 3, 1), (.if_icmp .ne 19, 3), (.aload_n 0, 1), (.iconst 2, 1), (.invokevirtual 342, 3), (.ifCond .ne 7, 3), (.iconst 1, 1), (.goto 58, 3), (.iconst 0, 1), (.goto 54, 3), (.iload_n 2, 1), (.iconst 5, 1), (.if_icmp .ne 20, 3), (.aload_n 0, 1), (.getfield 92, 3), (.iconst 2, 1), (.iaload, 1), (.ifCond .lt 7, 3), (.iconst 1, 1), (.goto 36, 3), (.iconst 0, 1), (.goto 32, 3), (.aload_n 0, 1), (.getfield 92, 3), (.iconst 2, 1), (.iaload, 1), (.iconst 1, 1), (.if_icmp .le 21, 3), (.aload_n 0, 1), (.getfield 39, 3), (.aload_n 0, 1), (.getfield 95, 3), (.iconst 2, 1), (.iaload, 1), (.iaload, 1), (.ifCond .le 7, 3), (.iconst 1, 1), (.goto 4, 3), (.iconst 0, 1), (.istore_n 3, 1), (.iload_n 3, 1), (.ifCond .ne 24, 3), (.aload_n 0, 1), (.getfield 83, 3), (.iload_n 1, 1), (.iaload, 1), (.ifCond .ge 15, 3), (.aload_n 0, 1), (.getfield 71, 3), (.aload_n 0, 1), (.getfield 86, 3), (.iload_n 1, 1), (.iaload, 1), (.iaload, 1), (.ireturn, 1), (.aload_n 0, 1), (.iload_n 1, 1), (.bipush 50, 2), (.idiv, 1), (.iload_n 1, 1), (.iconst 0, 1), (.iload_n 3, 1), (.ifCond .ne 7, 3), (.iconst 1, 1), (.goto 4, 3), (.iconst 0, 1), (.invokevirtual 367, 3), (.iload_n 3, 1), (.ifCond .ne 15, 3), (.aload_n 0, 1), (.getfield 71, 3), (.aload_n 0, 1), (.getfield 83, 3), (.iload_n 1, 1), (.iaload, 1), (.iaload, 1), (.ireturn, 1), (.iload_n 2, 1), (.iconst 3, 1), (.if_icmp .ne 10, 3), (.aload_n 0, 1), (.getfield 71, 3), (.iload_n 1, 1), (.iaload, 1), (.ireturn, 1), (.aload_n 0, 1), (.dup, 1), (.getfield 122, 3), (.iconst 1, 1), (.iadd, 1), (.putfield 122, 3), (.iload_n 2, 1), (.iconst 5, 1), (.if_icmp .ne 17, 3), (.aload_n 0, 1), (.iconst 2, 1), (.aload_n 0, 1), (.getfield 122, 3), (.iadd, 1), (.iconst 2, 1), (.invokevirtual 323, 3), (.goto 31, 3), (.aload_n 0, 1), (.getfield 143, 3), (.aload_n 0, 1), (.getfield 125, 3), (.iconst 1, 1), (.isub, 1), (.aload_n 0, 1), (.getfield 95, 3), (.iconst 2, 1), (.iaload, 1), (.iastore, 1), (.aload_n 0, 1), (.aload_n 0, 1), (.getfield 125, 3), (.iconst 1, 1), (.isub, 1), (.invokevirtual 371, 3), (.pop, 1), (.aload_n 0, 1), (.getfield 71, 3), (.iload_n 1, 1), (.iaload, 1), (.ireturn, 1)])
def m_M_ends : jw_M := (({ cls := "TemplateEngineModel", name := "ends", desc := "(I)I" } : Jvm.MethodName), prog_14_method_60_code, 5, (Option.some Jvm.ClassFile.FieldType.int), jt_b [(.aload_n 0, 1), (.getfield 125, 3), (.iconst 1, 1), (.isub, 1), (.istore_n 2, 1), (.aload_n 0, 1), (.getfield 137, 3), (.iload_n 2, 1), (.iaload, 1), (.istore_n 3, 1), (.aload_n 0, 1), (.getfield 152, 3), (.iload_n 2, 1), (.baload, 1), (.istore 4, 2), (.iload 4, 2), (.ifCond .ne 38, 3), (.aload_n 0, 1), (.getfield 80, 3), (.iload_n 3, 1), (.iaload, 1), (.iconst 4, 1), (.if_icmp .ne 28, 3), (.aload_n 0, 1), (.getfield 140, 3), (.iload_n 2, 1), (.dup2, 1), (.iaload, 1), (.iconst 1, 1), (.iadd, 1), (.iastore, 1), (.aload_n 0, 1), (.iload_n 2, 1), (.invokevirtual 371, 3), (.ifCond .eq 10, 3), (.aload_n 0, 1), (.getfield 71, 3), (.iload_n 3, 1), (.iaload, 1), (.ireturn, 1), (.iload 4, 2), (.ifCond .ne 23, 3), (.aload_n 0, 1), (.getfield 80, 3), (.iload_n 3, 1), (.iaload, 1), (.iconst 3, 1), (.if_icmp .eq 13, 3), (.aload_n 0, 1), (.dup, 1), (.getfield 122, 3), (.iconst 1, 1), (.isub, 1), (.putfield 122, 3), (.aload_n 0, 1), (.dup, 1), (.getfield 125, 3), (.iconst 1, 1), (.isub, 1), (.putfield 125, 3), (.aload_n 0, 1), (.getfield 71, 3), (.aload_n 0, 1), (.getfield 86, 3), (.iload_n 3, 1), (.iaload, 1), (.iaload, 1), (.ireturn, 1)])
def m_M_partial : jw_M := (({ cls := "TemplateEngineModel", name := "partial", desc := "(II)I" } : Jvm.MethodName), prog_14_method_61_code, 4, (Option.some Jvm.ClassFile.FieldType.int), jt_b [(.aload_n 0, 1), (.getfield 56, 3), (.aload_n 0, 1), (.getfield 74, 3), (.iload_n 1, 1), (.iaload, 1), (.iconst 2, 1), (.iadd, 1), (.caload, 1), (.bipush 97, 2), (.isub, 1), (.istore_n 3, 1), (.aload_n 0, 1), (.getfield 65, 3), (.iload_n 3, 1), (.baload, 1), (.ifCond .ne 11, 3), (.aload_n 0, 1), (.iconst 2, 1), (.putfield 128, 3), (.goto 24, 3), (.iload_n 2, 1), (.iconst 3, 1), (.if_icmp .ne 11, 3), (.aload_n 0, 1), (.iconst 3, 1), (.putfield 128, 3), (.goto 11, 3), (.aload_n 0, 1), (.iload_n 3, 1), (.iload_n 1, 1), (.iconst 1, 1), (.iconst 0, 1), (.invokevirtual 367, 3), (.iload_n 3, 1), (.sipush 200, 3), (.imul, 1), (.ireturn, 1)])
def m_M_underTemplates : jw_M := (({ cls := "TemplateEngineModel", name := "underTemplates", desc := "()I" } : Jvm.MethodName), prog_14_method_62_code, 3, (Option.some Jvm.ClassFile.FieldType.int), jt_b [(.iconst 1, 1), (.istore_n 1, 1), (.iconst 0, 1), (.istore_n 2, 1), (.iload_n 2, 1), (.aload_n 0, 1), (.getfield 125, 3), (.if_icmp .ge 21, 3), (.aload_n 0, 1), (.getfield 155, 3), (.iload_n 2, 1), (.baload, 1), (.ifCond .eq 6, 3), (.iinc 1 1, 3), (.iinc 2 1, 3), (.goto (-23), 3), (.iload_n 1, 1), (.ireturn, 1)])
def m_M_here : jw_M := (({ cls := "TemplateEngineModel", name := "here", desc := "(I)I" } : Jvm.MethodName), prog_14_method_63_code, 3, (Option.some Jvm.ClassFile.FieldType.int), jt_b [(.aload_n 0, 1), (.getfield 125, 3), (.iconst 1, 1), (.isub, 1), (.istore_n 2, 1), (.iload_n 2, 1), (.ifCond .lt 25, 3), (.aload_n 0, 1), (.getfield 155, 3), (.iload_n 2, 1), (.baload, 1), (.ifCond .eq 10, 3), (.aload_n 0, 1), (.getfield 134, 3), (.iload_n 2, 1), (.iaload, 1), (.ireturn, 1), (.iinc 2 (-1), 3), (.goto (-23), 3), (.iload_n 1, 1), (.ireturn, 1)])
def m_M_tag : jw_M := (({ cls := "TemplateEngineModel", name := "tag", desc := "(I)I" } : Jvm.MethodName), prog_14_method_64_code, 3, (Option.some Jvm.ClassFile.FieldType.int), jt_b [(.aload_n 0, 1), (.getfield 80, 3), (.iload_n 1, 1), (.iaload, 1), (.istore_n 2, 1), (.iload_n 2, 1), (.iconst 5, 1), (.if_icmp .le 15, 3), (.iload_n 2, 1), (.bipush 10, 2), (.if_icmp .ge 9, 3), (.aload_n 0, 1), (.iload_n 1, 1), (.invokevirtual 374, 3), (.ireturn, 1), (.aload_n 0, 1), (.getfield 25, 3), (.sipush 600, 3), (.if_icmp .ne 10, 3), (.aload_n 0, 1), (.iconst 4, 1), (.putfield 128, 3), (.iconst 0, 1), (.ireturn, 1), (.aload_n 0, 1), (.dup, 1), (.getfield 25, 3), (.iconst 1, 1), (.iadd, 1), (.putfield 25, 3), (.iload_n 2, 1), (.iconst 2, 1), (.if_icmp .le 15, 3), (.iload_n 2, 1), (.bipush 6, 2), (.if_icmp .ge 9, 3), (.aload_n 0, 1), (.iload_n 1, 1), (.invokevirtual 377, 3), (.ireturn, 1), (.iload_n 2, 1), (.bipush 10, 2), (.if_icmp .ne 13, 3), (.aload_n 0, 1), (.iload_n 1, 1), (.aload_n 0, 1), (.invokevirtual 380, 3), (.invokevirtual 383, 3), (.ireturn, 1), (.iload_n 2, 1), (.iconst 2, 1), (.if_icmp .ge 40, 3), (.aload_n 0, 1), (.aload_n 0, 1), (.getfield 74, 3), (.iload_n 1, 1), (.iaload, 1), (.aload_n 0, 1), (.getfield 77, 3), (.iload_n 1, 1), (.iaload, 1), (.invokevirtual 364, 3), (.aload_n 0, 1), (.getfield 128, 3), (.ifCond .ne 17, 3), (.aload_n 0, 1), (.iload_n 2, 1), (.iconst 1, 1), (.if_icmp .ne 7, 3), (.iconst 1, 1), (.goto 4, 3), (.iconst 0, 1), (.invokevirtual 386, 3), (.aload_n 0, 1), (.getfield 71, 3), (.iload_n 1, 1), (.iaload, 1), (.ireturn, 1)])
def m_M_tagFrom : jw_M := (({ cls := "TemplateEngineModel", name := "tagFrom", desc := "(II)I" } : Jvm.MethodName), prog_14_method_65_code, 4, (Option.some Jvm.ClassFile.FieldType.int), jt_b [(.iload_n 1, 1), (.bipush 50, 2), (.imul, 1), (.istore_n 3, 1), (.iload_n 3, 1), (.iload_n 1, 1), (.bipush 50, 2), (.imul, 1), (.aload_n 0, 1), (.getfield 62, 3), (.iload_n 1, 1), (.iaload, 1), (.iadd, 1), (.if_icmp .ge 21, 3), (.aload_n 0, 1), (.getfield 68, 3), (.iload_n 3, 1), (.iaload, 1), (.iload_n 2, 1), (.if_icmp .lt 5, 3), (.iload_n 3, 1), (.ireturn, 1), (.iinc 3 1, 3), (.goto (-30), 3), (.iconst (-1), 1), (.ireturn, 1)])
def m_M_go : jw_M := (({ cls := "TemplateEngineModel", name := "go", desc := "(I)V" } : Jvm.MethodName), prog_14_method_66_code, 6, (Option.none : Option Jvm.ClassFile.FieldType), jt_b [(.iload_n 1, 1), (.sipush 200, 3), (.imul, 1), (.istore_n 2, 1), (.aload_n 0, 1), (.getfield 128, 3), (.ifCond .ne 134, 3), (.aload_n 0, 1), (.iload_n 1, 1), (.invokevirtual 390, 3), (.istore_n 3, 1), (.aload_n 0, 1), (.iload_n 3, 1), (.iload_n 2, 1), (.invokevirtual 393, 3), (.istore 4, 2), (.iload 4, 2), (.ifCond .ge 18, 3), (.iload_n 3, 1), (.sipush 200, 3), (.imul, 1), (.aload_n 0, 1), (.getfield 59, 3), (.iload_n 3, 1), (.iaload, 1), (.iadd, 1), (.goto 10, 3), (.aload_n 0, 1), (.getfield 68, 3), (.iload 4, 2), (.iaload, 1), (.istore 5, 2), (.iload_n 2, 1), (.iload 5, 2), (.if_icmp .ge 26, 3), (.aload_n 0, 1), (.getfield 128, 3), (.ifCond .ne 19, 3), (.aload_n 0, 1), (.aload_n 0, 1), (.getfield 56, 3), (.iload_n 2, 1), (.caload, 1), (.invokevirtual 349, 3), (.iinc 2 1, 3), (.goto (-26), 3), (.aload_n 0, 1), (.getfield 128, 3), (.ifCond .eq 4, 3), (.return_, 1), (.iload 4, 2), (.ifCond .lt 13, 3), (.aload_n 0, 1), (.iload 4, 2), (.invokevirtual 396, 3), (.istore_n 2, 1), (.goto 36, 3), (.aload_n 0, 1), (.getfield 125, 3), (.ifCond .ne 4, 3), (.return_, 1), (.aload_n 0, 1), (.dup, 1), (.getfield 125, 3), (.iconst 1, 1), (.isub, 1), (.putfield 125, 3), (.aload_n 0, 1), (.getfield 71, 3), (.aload_n 0, 1), (.getfield 137, 3), (.aload_n 0, 1), (.getfield 125, 3), (.iaload, 1), (.iaload, 1), (.istore_n 2, 1), (.goto (-135), 3), (.return_, 1)])
def m_M_render : jw_M := (({ cls := "TemplateEngineModel", name := "render", desc := "(II)I" } : Jvm.MethodName), prog_14_method_67_code, 4, (Option.some Jvm.ClassFile.FieldType.int), jt_b [(.iload_n 1, 1), (.ifCond .lt 8, 3), (.iload_n 1, 1), (.iconst 3, 1), (.if_icmp .le 9, 3), (.aload_n 0, 1), (.iconst 1, 1), (.invokevirtual 158, 3), (.ireturn, 1), (.aload_n 0, 1), (.getfield 65, 3), (.iload_n 1, 1), (.baload, 1), (.ifCond .eq 11, 3), (.aload_n 0, 1), (.iload_n 2, 1), (.invokevirtual 169, 3), (.ifCond .eq 9, 3), (.aload_n 0, 1), (.iconst 2, 1), (.invokevirtual 158, 3), (.ireturn, 1), (.aload_n 0, 1), (.iconst 0, 1), (.putfield 25, 3), (.aload_n 0, 1), (.iconst 0, 1), (.putfield 125, 3), (.aload_n 0, 1), (.iconst 1, 1), (.putfield 122, 3), (.aload_n 0, 1), (.iconst 0, 1), (.putfield 116, 3), (.aload_n 0, 1), (.iconst 0, 1), (.putfield 128, 3), (.aload_n 0, 1), (.iconst 3, 1), (.iload_n 2, 1), (.invokevirtual 313, 3), (.aload_n 0, 1), (.iload_n 1, 1), (.invokevirtual 399, 3), (.aload_n 0, 1), (.getfield 128, 3), (.ifCond .eq 12, 3), (.aload_n 0, 1), (.aload_n 0, 1), (.getfield 128, 3), (.invokevirtual 158, 3), (.ireturn, 1), (.aload_n 0, 1), (.aload_n 0, 1), (.getfield 116, 3), (.putfield 119, 3), (.iconst 0, 1), (.istore_n 3, 1), (.iload_n 3, 1), (.aload_n 0, 1), (.getfield 116, 3), (.if_icmp .ge 21, 3), (.aload_n 0, 1), (.getfield 110, 3), (.iload_n 3, 1), (.aload_n 0, 1), (.getfield 107, 3), (.iload_n 3, 1), (.caload, 1), (.castore, 1), (.iinc 3 1, 3), (.goto (-23), 3), (.aload_n 0, 1), (.aload_n 0, 1), (.getfield 25, 3), (.putfield 28, 3), (.aload_n 0, 1), (.aload_n 0, 1), (.getfield 119, 3), (.invokevirtual 162, 3), (.ireturn, 1)])
def m_M_at : jw_M := (({ cls := "TemplateEngineModel", name := "at", desc := "(I)I" } : Jvm.MethodName), prog_14_method_68_code, 2, (Option.some Jvm.ClassFile.FieldType.int), jt_b [(.iload_n 1, 1), (.ifCond .lt 11, 3), (.iload_n 1, 1), (.aload_n 0, 1), (.getfield 119, 3), (.if_icmp .lt 11, 3), (.aload_n 0, 1), (.iconst 1, 1), (.invokevirtual 158, 3), (.goto 13, 3), (.aload_n 0, 1), (.aload_n 0, 1), (.getfield 110, 3), (.iload_n 1, 1), (.caload, 1), (.invokevirtual 162, 3), (.ireturn, 1)])
def m_M_kind : jw_M := (({ cls := "TemplateEngineModel", name := "kind", desc := "(I)I" } : Jvm.MethodName), prog_14_method_69_code, 2, (Option.some Jvm.ClassFile.FieldType.int), jt_b [(.aload_n 0, 1), (.iload_n 1, 1), (.invokevirtual 169, 3), (.ifCond .eq 11, 3), (.aload_n 0, 1), (.iconst 1, 1), (.invokevirtual 158, 3), (.goto 13, 3), (.aload_n 0, 1), (.aload_n 0, 1), (.getfield 35, 3), (.iload_n 1, 1), (.iaload, 1), (.invokevirtual 162, 3), (.ireturn, 1)])
def m_M_size : jw_M := (({ cls := "TemplateEngineModel", name := "size", desc := "(I)I" } : Jvm.MethodName), prog_14_method_70_code, 2, (Option.some Jvm.ClassFile.FieldType.int), jt_b [(.aload_n 0, 1), (.iload_n 1, 1), (.invokevirtual 169, 3), (.ifCond .eq 9, 3), (.aload_n 0, 1), (.iconst 1, 1), (.invokevirtual 158, 3), (.ireturn, 1), (.aload_n 0, 1), (.iconst 0, 1), (.iload_n 1, 1), (.invokevirtual 313, 3), (.aload_n 0, 1), (.aload_n 0, 1), (.iconst 0, 1), (.invokevirtual 307, 3), (.invokevirtual 162, 3), (.ireturn, 1)])
def m_M_count : jw_M := (({ cls := "TemplateEngineModel", name := "count", desc := "(I)I" } : Jvm.MethodName), prog_14_method_71_code, 4, (Option.some Jvm.ClassFile.FieldType.int), jt_b [(.aload_n 0, 1), (.iconst 0, 1), (.putfield 7, 3), (.iconst 0, 1), (.istore_n 2, 1), (.iconst 0, 1), (.istore_n 3, 1), (.iload_n 3, 1), (.iconst 4, 1), (.if_icmp .ge 21, 3), (.aload_n 0, 1), (.getfield 65, 3), (.iload_n 3, 1), (.baload, 1), (.ifCond .eq 6, 3), (.iinc 2 1, 3), (.iinc 3 1, 3), (.goto (-20), 3), (.iload_n 1, 1), (.ifCond .ne 10, 3), (.aload_n 0, 1), (.getfield 22, 3), (.goto 61, 3), (.iload_n 1, 1), (.iconst 1, 1), (.if_icmp .ne 10, 3), (.aload_n 0, 1), (.getfield 16, 3), (.goto 49, 3), (.iload_n 1, 1), (.iconst 2, 1), (.if_icmp .ne 7, 3), (.iload_n 2, 1), (.goto 40, 3), (.iload_n 1, 1), (.iconst 3, 1), (.if_icmp .ne 10, 3), (.aload_n 0, 1), (.getfield 119, 3), (.goto 28, 3), (.iload_n 1, 1), (.iconst 4, 1), (.if_icmp .ne 10, 3), (.aload_n 0, 1), (.getfield 28, 3), (.goto 16, 3), (.iload_n 1, 1), (.iconst 5, 1), (.if_icmp .ne 10, 3), (.aload_n 0, 1), (.getfield 13, 3), (.goto 4, 3), (.iconst (-1), 1), (.ireturn, 1)])
def m_X_init : jw_M := (({ cls := "TemplateEngine$Expression", name := "<init>", desc := "(LTemplateEngine$Helper;LTemplateEngine$Operand;LTemplateEngine$Operand;)V" } : Jvm.MethodName), prog_3_method_1_code, 4, (Option.none : Option Jvm.ClassFile.FieldType), jt_b [(.aload_n 0, 1), (.invokespecial 1, 3), (.aload_n 0, 1), (.aload_n 1, 1), (.putfield 7, 3), (.aload_n 0, 1), (.aload_n 2, 1), (.putfield 13, 3), (.aload_n 0, 1), (.aload_n 3, 1), (.putfield 17, 3), (.return_, 1)])
def m_O_init : jw_M := (({ cls := "TemplateEngine$Operand", name := "<init>", desc := "(LTemplateEngine$OperandSort;)V" } : Jvm.MethodName), prog_5_method_1_code, 2, (Option.none : Option Jvm.ClassFile.FieldType), jt_b [(.aload_n 0, 1), (.invokespecial 1, 3), (.aload_n 0, 1), (.aload_n 1, 1), (.putfield 7, 3), (.return_, 1)])
def m_N_init : jw_M := (({ cls := "TemplateEngine$Part", name := "<init>", desc := "(LTemplateEngine$Sort;I)V" } : Jvm.MethodName), prog_7_method_1_code, 3, (Option.none : Option Jvm.ClassFile.FieldType), jt_b [(.aload_n 0, 1), (.invokespecial 1, 3), (.aload_n 0, 1), (.aload_n 1, 1), (.putfield 7, 3), (.aload_n 0, 1), (.iload_n 2, 1), (.putfield 13, 3), (.return_, 1)])
def m_R_init : jw_M := (({ cls := "TemplateEngine$Renderer", name := "<init>", desc := "()V" } : Jvm.MethodName), prog_8_method_1_code, 2, (Option.none : Option Jvm.ClassFile.FieldType), jt_b [(.aload_n 0, 1), (.invokespecial 3, 3), (.aload_n 0, 1), (.bipush 13, 2), (.anewarray 9, 3), (.putfield 11, 3), (.aload_n 0, 1), (.bipush 13, 2), (.anewarray 9, 3), (.putfield 17, 3), (.aload_n 0, 1), (.iconst 0, 1), (.invokestatic 20, 3), (.putfield 24, 3), (.aload_n 0, 1), (.new 28, 3), (.dup, 1), (.sipush 400, 3), (.invokespecial 30, 3), (.putfield 33, 3), (.aload_n 0, 1), (.new 28, 3), (.dup, 1), (.sipush 400, 3), (.invokespecial 30, 3), (.putfield 37, 3), (.aload_n 0, 1), (.new 28, 3), (.dup, 1), (.sipush 400, 3), (.invokespecial 30, 3), (.putfield 40, 3), (.aload_n 0, 1), (.new 28, 3), (.dup, 1), (.sipush 400, 3), (.invokespecial 30, 3), (.putfield 43, 3), (.iconst 0, 1), (.istore_n 1, 1), (.iload_n 1, 1), (.aload_n 0, 1), (.getfield 17, 3), (.arraylength, 1), (.if_icmp .ge 28, 3), (.aload_n 0, 1), (.getfield 17, 3), (.iload_n 1, 1), (.new 28, 3), (.dup, 1), (.sipush 400, 3), (.invokespecial 30, 3), (.invokestatic 46, 3), (.aastore, 1), (.iinc 1 1, 3), (.goto (-31), 3), (.return_, 1)])
def m_R_run : jw_M := (({ cls := "TemplateEngine$Renderer", name := "run", desc := "([LTemplateEngine$Part;LTemplateEngine$Part;LTemplateEngine$Value;)V" } : Jvm.MethodName), prog_8_method_2_code, 5, (Option.none : Option Jvm.ClassFile.FieldType), jt_b [(.aload_n 0, 1), (.aload_n 1, 1), (.putfield 50, 3), (.aload_n 0, 1), (.getfield 40, 3), (.invokevirtual 54, 3), (.aload_n 0, 1), (.getfield 11, 3), (.iconst 0, 1), (.aload_n 3, 1), (.aastore, 1), (.aload_n 0, 1), (.iconst 1, 1), (.putfield 57, 3), (.aload_n 0, 1), (.iconst 1, 1), (.putfield 61, 3), (.aload_n 0, 1), (.iconst (-1), 1), (.putfield 64, 3), (.aload_n 0, 1), (.iconst 0, 1), (.putfield 67, 3), (.aload_n 0, 1), (.aload_n 2, 1), (.getfield 70, 3), (.iconst 0, 1), (.invokevirtual 76, 3), (.aload_n 0, 1), (.getfield 43, 3), (.astore 4, 2), (.aload_n 0, 1), (.aload_n 0, 1), (.getfield 40, 3), (.putfield 43, 3), (.aload_n 0, 1), (.aload 4, 2), (.putfield 40, 3), (.aload_n 0, 1), (.aload_n 0, 1), (.getfield 67, 3), (.putfield 80, 3), (.return_, 1)])
def m_R_renderParts : jw_M := (({ cls := "TemplateEngine$Renderer", name := "renderParts", desc := "(LTemplateEngine$Part;I)V" } : Jvm.MethodName), prog_8_method_3_code, 4, (Option.none : Option Jvm.ClassFile.FieldType), jt_b [(.aload_n 1, 1), (.astore_n 3, 1), (.aload_n 3, 1), (.ifnull 186, 3), (.getstatic 83, 3), (.aload_n 3, 1), (.getfield 89, 3), (.invokevirtual 93, 3), (.iaload, 1), (.tableswitch 160 1 12 #[147, 147, 147, 160, 160, 160, 160, 160, 131, 63, 77, 106], 63), (.aload_n 0, 1), (.getfield 40, 3), (.aload_n 3, 1), (.getfield 99, 3), (.invokevirtual 102, 3), (.goto 90, 3), (.aload_n 0, 1), (.invokevirtual 106, 3), (.aload_n 0, 1), (.aload_n 3, 1), (.getfield 109, 3), (.aload_n 0, 1), (.getfield 17, 3), (.iload_n 2, 1), (.aaload, 1), (.invokevirtual 113, 3), (.aload_n 0, 1), (.getfield 40, 3), (.iconst 0, 1), (.invokestatic 117, 3), (.goto 61, 3), (.aload_n 0, 1), (.invokevirtual 106, 3), (.aload_n 0, 1), (.aload_n 0, 1), (.aload_n 3, 1), (.getfield 109, 3), (.aload_n 0, 1), (.getfield 17, 3), (.iload_n 2, 1), (.aaload, 1), (.invokevirtual 113, 3), (.invokevirtual 121, 3), (.goto 36, 3), (.aload_n 0, 1), (.invokevirtual 106, 3), (.aload_n 0, 1), (.aload_n 3, 1), (.getfield 125, 3), (.iload_n 2, 1), (.invokevirtual 128, 3), (.goto 20, 3), (.aload_n 0, 1), (.invokevirtual 106, 3), (.aload_n 0, 1), (.aload_n 3, 1), (.iload_n 2, 1), (.invokevirtual 132, 3), (.goto 7, 3), (.aload_n 0, 1), (.invokevirtual 106, 3), (.aload_n 3, 1), (.getfield 135, 3), (.astore_n 3, 1), (.goto (-184), 3), (.return_, 1)])
def m_R_meetTag : jw_M := (({ cls := "TemplateEngine$Renderer", name := "meetTag", desc := "()V" } : Jvm.MethodName), prog_8_method_4_code, 1, (Option.none : Option Jvm.ClassFile.FieldType), jt_b [(.aload_n 0, 1), (.getfield 67, 3), (.sipush 600, 3), (.if_icmp .lt 13, 3), (.new 138, 3), (.dup, 1), (.ldc 140, 2), (.invokespecial 142, 3), (.athrow, 1), (.aload_n 0, 1), (.dup, 1), (.getfield 67, 3), (.iconst 1, 1), (.iadd, 1), (.putfield 67, 3), (.return_, 1)])
def m_R_renderPartial : jw_M := (({ cls := "TemplateEngine$Renderer", name := "renderPartial", desc := "(II)V" } : Jvm.MethodName), prog_8_method_5_code, 5, (Option.none : Option Jvm.ClassFile.FieldType), jt_b [(.aload_n 0, 1), (.getfield 50, 3), (.iload_n 1, 1), (.aaload, 1), (.astore_n 3, 1), (.aload_n 3, 1), (.ifnonnull 13, 3), (.new 145, 3), (.dup, 1), (.ldc 147, 2), (.invokespecial 149, 3), (.athrow, 1), (.aload_n 0, 1), (.getfield 61, 3), (.iconst 3, 1), (.if_icmp .lt 13, 3), (.new 150, 3), (.dup, 1), (.ldc 152, 2), (.invokespecial 154, 3), (.athrow, 1), (.aload_n 0, 1), (.getfield 64, 3), (.istore 4, 2), (.aload_n 0, 1), (.iconst (-1), 1), (.putfield 64, 3), (.aload_n 0, 1), (.dup, 1), (.getfield 61, 3), (.iconst 1, 1), (.iadd, 1), (.putfield 61, 3), (.aload_n 0, 1), (.aload_n 3, 1), (.getfield 70, 3), (.iload_n 2, 1), (.invokevirtual 76, 3), (.aload_n 0, 1), (.dup, 1), (.getfield 61, 3), (.iconst 1, 1), (.isub, 1), (.putfield 61, 3), (.aload_n 0, 1), (.iload 4, 2), (.putfield 64, 3), (.return_, 1)])
def m_R_renderBlock : jw_M := (({ cls := "TemplateEngine$Renderer", name := "renderBlock", desc := "(LTemplateEngine$Part;I)V" } : Jvm.MethodName), prog_8_method_6_code, 4, (Option.none : Option Jvm.ClassFile.FieldType), jt_b [(.iload_n 2, 1), (.bipush 12, 2), (.if_icmp .lt 4, 3), (.return_, 1), (.aload_n 0, 1), (.aload_n 1, 1), (.getfield 109, 3), (.aload_n 0, 1), (.getfield 17, 3), (.iload_n 2, 1), (.aaload, 1), (.invokevirtual 113, 3), (.astore_n 3, 1), (.aload_n 1, 1), (.getfield 89, 3), (.getstatic 155, 3), (.if_acmp .ne 31, 3), (.aload_n 0, 1), (.aload_n 3, 1), (.invokestatic 158, 3), (.ifCond .eq 10, 3), (.aload_n 1, 1), (.getfield 162, 3), (.goto 7, 3), (.aload_n 1, 1), (.getfield 70, 3), (.iload_n 2, 1), (.iconst 1, 1), (.iadd, 1), (.invokevirtual 76, 3), (.goto 103, 3), (.aload_n 1, 1), (.getfield 89, 3), (.getstatic 165, 3), (.if_acmp .ne 51, 3), (.aload_n 3, 1), (.ifnull 47, 3), (.aload_n 0, 1), (.getfield 11, 3), (.aload_n 0, 1), (.getfield 57, 3), (.aload_n 3, 1), (.aastore, 1), (.aload_n 0, 1), (.dup, 1), (.getfield 57, 3), (.iconst 1, 1), (.iadd, 1), (.putfield 57, 3), (.aload_n 0, 1), (.aload_n 1, 1), (.getfield 70, 3), (.iload_n 2, 1), (.iconst 1, 1), (.iadd, 1), (.invokevirtual 76, 3), (.aload_n 0, 1), (.dup, 1), (.getfield 57, 3), (.iconst 1, 1), (.isub, 1), (.putfield 57, 3), (.goto 45, 3), (.aload_n 1, 1), (.getfield 89, 3), (.getstatic 168, 3), (.if_acmp .ne 24, 3), (.aload_n 3, 1), (.ifnull 20, 3), (.aload_n 3, 1), (.getfield 171, 3), (.ifCond .le 13, 3), (.aload_n 0, 1), (.aload_n 1, 1), (.aload_n 3, 1), (.iload_n 2, 1), (.invokevirtual 174, 3), (.goto 14, 3), (.aload_n 0, 1), (.aload_n 1, 1), (.getfield 162, 3), (.iload_n 2, 1), (.iconst 1, 1), (.iadd, 1), (.invokevirtual 76, 3), (.return_, 1)])
def m_R_renderEach : jw_M := (({ cls := "TemplateEngine$Renderer", name := "renderEach", desc := "(LTemplateEngine$Part;LTemplateEngine$Value;I)V" } : Jvm.MethodName), prog_8_method_7_code, 6, (Option.none : Option Jvm.ClassFile.FieldType), jt_b [(.aload_n 0, 1), (.getfield 64, 3), (.istore 4, 2), (.aload_n 0, 1), (.dup, 1), (.getfield 57, 3), (.iconst 1, 1), (.iadd, 1), (.putfield 57, 3), (.iconst 0, 1), (.istore 5, 2), (.iload 5, 2), (.aload_n 2, 1), (.getfield 171, 3), (.if_icmp .ge 44, 3), (.aload_n 0, 1), (.getfield 11, 3), (.aload_n 0, 1), (.getfield 57, 3), (.iconst 1, 1), (.isub, 1), (.aload_n 2, 1), (.getfield 178, 3), (.iload 5, 2), (.aaload, 1), (.aastore, 1), (.aload_n 0, 1), (.iload 5, 2), (.putfield 64, 3), (.aload_n 0, 1), (.aload_n 1, 1), (.getfield 70, 3), (.iload_n 3, 1), (.iconst 1, 1), (.iadd, 1), (.invokevirtual 76, 3), (.iinc 5 1, 3), (.goto (-47), 3), (.aload_n 0, 1), (.dup, 1), (.getfield 57, 3), (.iconst 1, 1), (.isub, 1), (.putfield 57, 3), (.aload_n 0, 1), (.iload 4, 2), (.putfield 64, 3), (.return_, 1)])
def m_R_evaluate : jw_M := (({ cls := "TemplateEngine$Renderer", name := "evaluate", desc := "(LTemplateEngine$Expression;LTemplateEngine$Value;)LTemplateEngine$Value;" } : Jvm.MethodName), prog_8_method_8_code, 5, (Option.some (Jvm.ClassFile.FieldType.object "TemplateEngine$Value")), jt_b [(.aload_n 0, 1), (.aload_n 1, 1), (.getfield 181, 3), (.aload_n 2, 1), (.invokevirtual 187, 3), (.astore_n 3, 1), (.aload_n 1, 1), (.getfield 191, 3), (.ifnonnull 7, 3), (.aconst_null, 1), (.goto 15, 3), (.aload_n 0, 1), (.aload_n 1, 1), (.getfield 191, 3), (.aload_n 0, 1), (.getfield 24, 3), (.invokevirtual 187, 3), (.astore 4, 2), (.getstatic 194, 3), (.aload_n 1, 1), (.getfield 197, 3), (.invokevirtual 201, 3), (.iaload, 1), (.tableswitch 219 1 6 #[38, 68, 85, 102, 136, 193], 38), (.aload_n 2, 1), (.getfield 204, 3), (.invokevirtual 54, 3), (.aload_n 3, 1), (.aload_n 2, 1), (.getfield 204, 3), (.iconst 0, 1), (.invokestatic 117, 3), (.aload_n 2, 1), (.getfield 204, 3), (.invokevirtual 207, 3), (.aload_n 2, 1), (.iconst 1, 1), (.putfield 210, 3), (.aload_n 2, 1), (.areturn, 1), (.aload_n 2, 1), (.aload_n 3, 1), (.ifnonnull 7, 3), (.iconst 0, 1), (.goto 7, 3), (.aload_n 3, 1), (.invokevirtual 213, 3), (.invokevirtual 216, 3), (.areturn, 1), (.aload_n 2, 1), (.aload_n 3, 1), (.invokestatic 158, 3), (.ifCond .eq 7, 3), (.iconst 1, 1), (.goto 4, 3), (.iconst 0, 1), (.invokevirtual 216, 3), (.areturn, 1), (.aload_n 3, 1), (.invokestatic 219, 3), (.ifCond .eq 28, 3), (.aload 4, 2), (.invokestatic 219, 3), (.ifCond .eq 20, 3), (.aload_n 2, 1), (.aload_n 3, 1), (.getfield 222, 3), (.aload 4, 2), (.getfield 222, 3), (.iadd, 1), (.invokevirtual 216, 3), (.goto 4, 3), (.aconst_null, 1), (.areturn, 1), (.aload_n 0, 1), (.getfield 33, 3), (.invokevirtual 54, 3), (.aload_n 3, 1), (.aload_n 0, 1), (.getfield 33, 3), (.iconst 0, 1), (.invokestatic 117, 3), (.aload_n 0, 1), (.getfield 37, 3), (.invokevirtual 54, 3), (.aload 4, 2), (.aload_n 0, 1), (.getfield 37, 3), (.iconst 0, 1), (.invokestatic 117, 3), (.aload_n 2, 1), (.aload_n 0, 1), (.getfield 33, 3), (.aload_n 0, 1), (.getfield 37, 3), (.invokevirtual 225, 3), (.ifCond .eq 7, 3), (.iconst 1, 1), (.goto 4, 3), (.iconst 0, 1), (.invokevirtual 216, 3), (.areturn, 1), (.aload_n 3, 1), (.ifnull 23, 3), (.aload 4, 2), (.invokestatic 219, 3), (.ifCond .eq 15, 3), (.aload_n 3, 1), (.aload 4, 2), (.getfield 222, 3), (.invokevirtual 229, 3), (.goto 4, 3), (.aconst_null, 1), (.areturn, 1), (.aload_n 3, 1), (.areturn, 1)])
def m_R_valueOf : jw_M := (({ cls := "TemplateEngine$Renderer", name := "valueOf", desc := "(LTemplateEngine$Operand;LTemplateEngine$Value;)LTemplateEngine$Value;" } : Jvm.MethodName), prog_8_method_9_code, 3, (Option.some (Jvm.ClassFile.FieldType.object "TemplateEngine$Value")), jt_b [(.getstatic 232, 3), (.aload_n 1, 1), (.getfield 235, 3), (.invokevirtual 240, 3), (.iaload, 1), (.tableswitch 80 1 3 #[25, 30, 51], 25), (.aload_n 1, 1), (.getfield 243, 3), (.areturn, 1), (.aload_n 0, 1), (.getfield 64, 3), (.iconst (-1), 1), (.if_icmp .ne 7, 3), (.aconst_null, 1), (.goto 11, 3), (.aload_n 2, 1), (.aload_n 0, 1), (.getfield 64, 3), (.invokevirtual 216, 3), (.areturn, 1), (.aload_n 0, 1), (.getfield 64, 3), (.iconst (-1), 1), (.if_icmp .ne 7, 3), (.aconst_null, 1), (.goto 19, 3), (.aload_n 2, 1), (.aload_n 0, 1), (.getfield 64, 3), (.ifCond .ne 7, 3), (.iconst 1, 1), (.goto 4, 3), (.iconst 0, 1), (.invokevirtual 216, 3), (.areturn, 1), (.aload_n 0, 1), (.aload_n 1, 1), (.invokevirtual 246, 3), (.areturn, 1)])
def m_R_follow : jw_M := (({ cls := "TemplateEngine$Renderer", name := "follow", desc := "(LTemplateEngine$Operand;)LTemplateEngine$Value;" } : Jvm.MethodName), prog_8_method_10_code, 7, (Option.some (Jvm.ClassFile.FieldType.object "TemplateEngine$Value")), jt_b [(.aload_n 0, 1), (.getfield 57, 3), (.iconst 1, 1), (.isub, 1), (.aload_n 1, 1), (.getfield 250, 3), (.isub, 1), (.istore_n 2, 1), (.iload_n 2, 1), (.ifCond .ge 7, 3), (.aconst_null, 1), (.goto 9, 3), (.aload_n 0, 1), (.getfield 11, 3), (.iload_n 2, 1), (.aaload, 1), (.astore_n 3, 1), (.iconst 0, 1), (.istore 4, 2), (.iload 4, 2), (.aload_n 1, 1), (.getfield 253, 3), (.arraylength, 1), (.if_icmp .ge 50, 3), (.aload_n 3, 1), (.ifnull 46, 3), (.aload_n 1, 1), (.getfield 253, 3), (.iload 4, 2), (.laload, 1), (.lstore 5, 2), (.lload 5, 2), (.lconst 0, 1), (.lcmp, 1), (.ifCond .ge 17, 3), (.aload_n 3, 1), (.ldc2_w 257, 3), (.lload 5, 2), (.lsub, 1), (.l2i, 1), (.invokevirtual 229, 3), (.goto 9, 3), (.aload_n 3, 1), (.lload 5, 2), (.invokevirtual 259, 3), (.astore_n 3, 1), (.iinc 4 1, 3), (.goto (-54), 3), (.aload_n 3, 1), (.areturn, 1)])
def m_R_showEscaped : jw_M := (({ cls := "TemplateEngine$Renderer", name := "showEscaped", desc := "(LTemplateEngine$Value;)V" } : Jvm.MethodName), prog_8_method_11_code, 2, (Option.none : Option Jvm.ClassFile.FieldType), jt_b [(.aload_n 0, 1), (.getfield 33, 3), (.invokevirtual 54, 3), (.aload_n 1, 1), (.aload_n 0, 1), (.getfield 33, 3), (.iconst 0, 1), (.invokestatic 117, 3), (.aload_n 0, 1), (.getfield 40, 3), (.aload_n 0, 1), (.getfield 33, 3), (.invokevirtual 263, 3), (.return_, 1)])
def m_R_showRaw : jw_M := (({ cls := "TemplateEngine$Renderer", name := "showRaw", desc := "(LTemplateEngine$Value;LTemplateEngine$Text;I)V" } : Jvm.MethodName), prog_8_method_12_code, 4, (Option.none : Option Jvm.ClassFile.FieldType), jt_b [(.aload_n 0, 1), (.ifnull 9, 3), (.iload_n 2, 1), (.bipush 60, 2), (.if_icmp .le 4, 3), (.return_, 1), (.aload_n 0, 1), (.getfield 210, 3), (.tableswitch 89 0 2 #[25, 36, 47], 25), (.aload_n 1, 1), (.aload_n 0, 1), (.getfield 222, 3), (.invokevirtual 266, 3), (.goto 63, 3), (.aload_n 1, 1), (.aload_n 0, 1), (.getfield 204, 3), (.invokevirtual 102, 3), (.goto 52, 3), (.iconst 0, 1), (.istore_n 3, 1), (.iload_n 3, 1), (.aload_n 0, 1), (.getfield 171, 3), (.if_icmp .ge 32, 3), (.iload_n 3, 1), (.ifCond .le 9, 3), (.aload_n 1, 1), (.bipush 44, 2), (.invokevirtual 269, 3), (.aload_n 0, 1), (.getfield 178, 3), (.iload_n 3, 1), (.aaload, 1), (.aload_n 1, 1), (.iload_n 2, 1), (.iconst 1, 1), (.iadd, 1), (.invokestatic 117, 3), (.iinc 3 1, 3), (.goto (-34), 3), (.goto 10, 3), (.aload_n 1, 1), (.ldc_w 273, 3), (.invokevirtual 275, 3), (.return_, 1)])
def m_R_isFalse : jw_M := (({ cls := "TemplateEngine$Renderer", name := "isFalse", desc := "(LTemplateEngine$Value;)Z" } : Jvm.MethodName), prog_8_method_13_code, 1, (Option.some Jvm.ClassFile.FieldType.boolean), jt_b [(.aload_n 0, 1), (.ifnull 10, 3), (.aload_n 0, 1), (.invokevirtual 278, 3), (.ifCond .eq 7, 3), (.iconst 1, 1), (.goto 4, 3), (.iconst 0, 1), (.ireturn, 1)])
def m_R_isNumber : jw_M := (({ cls := "TemplateEngine$Renderer", name := "isNumber", desc := "(LTemplateEngine$Value;)Z" } : Jvm.MethodName), prog_8_method_14_code, 1, (Option.some Jvm.ClassFile.FieldType.boolean), jt_b [(.aload_n 0, 1), (.ifnull 14, 3), (.aload_n 0, 1), (.getfield 210, 3), (.ifCond .ne 7, 3), (.iconst 1, 1), (.goto 4, 3), (.iconst 0, 1), (.ireturn, 1)])
def m_P_init : jw_M := (({ cls := "TemplateEngine$TemplateReader", name := "<init>", desc := "(LTemplateEngine$Text;)V" } : Jvm.MethodName), prog_10_method_1_code, 2, (Option.none : Option Jvm.ClassFile.FieldType), jt_b [(.aload_n 0, 1), (.invokespecial 3, 3), (.aload_n 0, 1), (.new 9, 3), (.dup, 1), (.getstatic 11, 3), (.iconst 0, 1), (.invokespecial 17, 3), (.putfield 20, 3), (.aload_n 0, 1), (.iconst 5, 1), (.anewarray 9, 3), (.putfield 26, 3), (.aload_n 0, 1), (.iconst (-1), 1), (.putfield 30, 3), (.aload_n 0, 1), (.sipush 200, 3), (.newarray .long, 2), (.putfield 34, 3), (.aload_n 0, 1), (.aload_n 1, 1), (.putfield 38, 3), (.aload_n 0, 1), (.getfield 26, 3), (.iconst 0, 1), (.aload_n 0, 1), (.getfield 20, 3), (.aastore, 1), (.return_, 1)])
def m_P_takeApart : jw_M := (({ cls := "TemplateEngine$TemplateReader", name := "takeApart", desc := "()V" } : Jvm.MethodName), prog_10_method_2_code, 7, (Option.none : Option Jvm.ClassFile.FieldType), jt_b [(.iconst 0, 1), (.istore_n 1, 1), (.iconst 0, 1), (.istore_n 2, 1), (.iload_n 2, 1), (.sipush 200, 3), (.if_icmp .gt 190, 3), (.iload_n 1, 1), (.aload_n 0, 1), (.getfield 38, 3), (.getfield 42, 3), (.if_icmp .ge 179, 3), (.aload_n 0, 1), (.getfield 30, 3), (.iconst (-1), 1), (.if_icmp .ne 171, 3), (.aload_n 0, 1), (.getfield 38, 3), (.ldc 47, 2), (.iload_n 1, 1), (.invokevirtual 49, 3), (.istore_n 3, 1), (.aload_n 0, 1), (.iload_n 1, 1), (.iload_n 3, 1), (.invokevirtual 53, 3), (.iload_n 3, 1), (.istore_n 1, 1), (.iload_n 3, 1), (.aload_n 0, 1), (.getfield 38, 3), (.getfield 42, 3), (.if_icmp .ge 135, 3), (.aload_n 0, 1), (.getfield 38, 3), (.ldc 57, 2), (.iload_n 3, 1), (.aload_n 0, 1), (.getfield 38, 3), (.getfield 42, 3), (.invokevirtual 59, 3), (.istore 4, 2), (.iload 4, 2), (.ifCond .eq 8, 3), (.ldc 63, 2), (.goto 5, 3), (.ldc 65, 2), (.astore 5, 2), (.aload_n 0, 1), (.iload_n 3, 1), (.aload 5, 2), (.invokevirtual 67, 3), (.iadd, 1), (.putfield 72, 3), (.aload_n 0, 1), (.aload_n 0, 1), (.getfield 38, 3), (.aload 5, 2), (.aload_n 0, 1), (.getfield 72, 3), (.invokevirtual 49, 3), (.putfield 75, 3), (.aload_n 0, 1), (.getfield 75, 3), (.aload_n 0, 1), (.getfield 38, 3), (.getfield 42, 3), (.if_icmp .ge 17, 3), (.aload_n 0, 1), (.aload_n 0, 1), (.iload 4, 2), (.invokevirtual 78, 3), (.iload_n 3, 1), (.invokevirtual 82, 3), (.goto 4, 3), (.aconst_null, 1), (.astore 6, 2), (.aload 6, 2), (.ifnull 12, 3), (.aload_n 0, 1), (.aload 6, 2), (.invokevirtual 86, 3), (.ifCond .ne 8, 3), (.aload_n 0, 1), (.iload_n 3, 1), (.putfield 30, 3), (.aload_n 0, 1), (.dup, 1), (.getfield 90, 3), (.iconst 1, 1), (.iadd, 1), (.putfield 90, 3), (.aload_n 0, 1), (.getfield 75, 3), (.aload 5, 2), (.invokevirtual 67, 3), (.iadd, 1), (.istore_n 1, 1), (.iinc 2 1, 3), (.goto (-191), 3), (.aload_n 0, 1), (.getfield 30, 3), (.iconst (-1), 1), (.if_icmp .ne 26, 3), (.aload_n 0, 1), (.getfield 93, 3), (.ifCond .le 19, 3), (.aload_n 0, 1), (.aload_n 0, 1), (.getfield 26, 3), (.aload_n 0, 1), (.getfield 93, 3), (.aaload, 1), (.getfield 96, 3), (.putfield 30, 3), (.return_, 1)])
def m_P_attachPlain : jw_M := (({ cls := "TemplateEngine$TemplateReader", name := "attachPlain", desc := "(II)V" } : Jvm.MethodName), prog_10_method_3_code, 4, (Option.none : Option Jvm.ClassFile.FieldType), jt_b [(.iload_n 1, 1), (.iload_n 2, 1), (.if_icmp .ge 33, 3), (.new 9, 3), (.dup, 1), (.getstatic 99, 3), (.iload_n 1, 1), (.invokespecial 17, 3), (.astore_n 3, 1), (.aload_n 3, 1), (.aload_n 0, 1), (.getfield 38, 3), (.iload_n 1, 1), (.iload_n 2, 1), (.invokevirtual 102, 3), (.putfield 106, 3), (.aload_n 0, 1), (.aload_n 3, 1), (.invokevirtual 109, 3), (.return_, 1)])
def m_P_attach : jw_M := (({ cls := "TemplateEngine$TemplateReader", name := "attach", desc := "(LTemplateEngine$Part;)V" } : Jvm.MethodName), prog_10_method_4_code, 3, (Option.none : Option Jvm.ClassFile.FieldType), jt_b [(.aload_n 0, 1), (.getfield 26, 3), (.aload_n 0, 1), (.getfield 93, 3), (.aaload, 1), (.astore_n 2, 1), (.aload_n 0, 1), (.getfield 113, 3), (.ifnull 14, 3), (.aload_n 0, 1), (.getfield 113, 3), (.aload_n 1, 1), (.putfield 116, 3), (.goto 23, 3), (.aload_n 2, 1), (.getfield 119, 3), (.ifCond .eq 11, 3), (.aload_n 2, 1), (.aload_n 1, 1), (.putfield 123, 3), (.goto 8, 3), (.aload_n 2, 1), (.aload_n 1, 1), (.putfield 126, 3), (.aload_n 0, 1), (.aload_n 1, 1), (.putfield 113, 3), (.return_, 1)])
def m_P_takeIn : jw_M := (({ cls := "TemplateEngine$TemplateReader", name := "takeIn", desc := "(LTemplateEngine$Part;)Z" } : Jvm.MethodName), prog_10_method_5_code, 2, (Option.some Jvm.ClassFile.FieldType.boolean), jt_b [(.getstatic 129, 3), (.aload_n 1, 1), (.getfield 135, 3), (.invokevirtual 138, 3), (.iaload, 1), (.tableswitch 76 1 7 #[41, 41, 41, 47, 52, 60, 68], 41), (.aload_n 0, 1), (.aload_n 1, 1), (.invokevirtual 141, 3), (.ireturn, 1), (.aload_n 0, 1), (.invokevirtual 144, 3), (.ireturn, 1), (.aload_n 0, 1), (.getstatic 148, 3), (.invokevirtual 151, 3), (.ireturn, 1), (.aload_n 0, 1), (.getstatic 155, 3), (.invokevirtual 151, 3), (.ireturn, 1), (.aload_n 0, 1), (.getstatic 158, 3), (.invokevirtual 151, 3), (.ireturn, 1), (.aload_n 0, 1), (.aload_n 1, 1), (.invokevirtual 109, 3), (.iconst 1, 1), (.ireturn, 1)])
def m_P_beginBlock : jw_M := (({ cls := "TemplateEngine$TemplateReader", name := "beginBlock", desc := "(LTemplateEngine$Part;)Z" } : Jvm.MethodName), prog_10_method_6_code, 2, (Option.some Jvm.ClassFile.FieldType.boolean), jt_b [(.aload_n 0, 1), (.getfield 93, 3), (.iconst 4, 1), (.if_icmp .lt 5, 3), (.iconst 0, 1), (.ireturn, 1), (.aload_n 0, 1), (.aload_n 1, 1), (.invokevirtual 109, 3), (.aload_n 0, 1), (.dup, 1), (.getfield 93, 3), (.iconst 1, 1), (.iadd, 1), (.putfield 93, 3), (.aload_n 0, 1), (.getfield 26, 3), (.aload_n 0, 1), (.getfield 93, 3), (.aload_n 1, 1), (.aastore, 1), (.aload_n 0, 1), (.aconst_null, 1), (.putfield 113, 3), (.iconst 1, 1), (.ireturn, 1)])
def m_P_beginOther : jw_M := (({ cls := "TemplateEngine$TemplateReader", name := "beginOther", desc := "()Z" } : Jvm.MethodName), prog_10_method_7_code, 1, (Option.some Jvm.ClassFile.FieldType.boolean), jt_b [(.aload_n 0, 1), (.getfield 93, 3), (.ifCond .eq 18, 3), (.aload_n 0, 1), (.getfield 26, 3), (.aload_n 0, 1), (.getfield 93, 3), (.aaload, 1), (.getfield 119, 3), (.ifCond .eq 5, 3), (.iconst 0, 1), (.ireturn, 1), (.aload_n 0, 1), (.getfield 26, 3), (.aload_n 0, 1), (.getfield 93, 3), (.aaload, 1), (.iconst 1, 1), (.putfield 119, 3), (.aload_n 0, 1), (.aconst_null, 1), (.putfield 113, 3), (.iconst 1, 1), (.ireturn, 1)])
def m_P_endBlock : jw_M := (({ cls := "TemplateEngine$TemplateReader", name := "endBlock", desc := "(LTemplateEngine$Sort;)Z" } : Jvm.MethodName), prog_10_method_8_code, 2, (Option.some Jvm.ClassFile.FieldType.boolean), jt_b [(.aload_n 0, 1), (.getfield 93, 3), (.ifCond .eq 19, 3), (.aload_n 0, 1), (.getfield 26, 3), (.aload_n 0, 1), (.getfield 93, 3), (.aaload, 1), (.getfield 135, 3), (.aload_n 1, 1), (.if_acmp .eq 5, 3), (.iconst 0, 1), (.ireturn, 1), (.aload_n 0, 1), (.aload_n 0, 1), (.getfield 26, 3), (.aload_n 0, 1), (.getfield 93, 3), (.aaload, 1), (.putfield 113, 3), (.aload_n 0, 1), (.dup, 1), (.getfield 93, 3), (.iconst 1, 1), (.isub, 1), (.putfield 93, 3), (.iconst 1, 1), (.ireturn, 1)])
def m_P_readSort : jw_M := (({ cls := "TemplateEngine$TemplateReader", name := "readSort", desc := "(Z)LTemplateEngine$Sort;" } : Jvm.MethodName), prog_10_method_9_code, 2, (Option.some (Jvm.ClassFile.FieldType.object "TemplateEngine$Sort")), jt_b [(.iload_n 1, 1), (.ifCond .eq 7, 3), (.getstatic 161, 3), (.areturn, 1), (.aload_n 0, 1), (.ldc 164, 2), (.invokevirtual 166, 3), (.ifCond .eq 7, 3), (.getstatic 170, 3), (.areturn, 1), (.aload_n 0, 1), (.ldc 173, 2), (.invokevirtual 166, 3), (.ifCond .eq 7, 3), (.getstatic 148, 3), (.areturn, 1), (.aload_n 0, 1), (.ldc 175, 2), (.invokevirtual 166, 3), (.ifCond .eq 7, 3), (.getstatic 155, 3), (.areturn, 1), (.aload_n 0, 1), (.ldc 177, 2), (.invokevirtual 166, 3), (.ifCond .eq 7, 3), (.getstatic 158, 3), (.areturn, 1), (.aload_n 0, 1), (.ldc 179, 2), (.invokevirtual 166, 3), (.ifCond .eq 7, 3), (.getstatic 181, 3), (.areturn, 1), (.aload_n 0, 1), (.ldc 184, 2), (.invokevirtual 186, 3), (.ifCond .eq 7, 3), (.getstatic 189, 3), (.areturn, 1), (.aload_n 0, 1), (.ldc 192, 2), (.invokevirtual 186, 3), (.ifCond .eq 7, 3), (.getstatic 194, 3), (.areturn, 1), (.aload_n 0, 1), (.ldc 197, 2), (.invokevirtual 186, 3), (.ifCond .eq 7, 3), (.getstatic 199, 3), (.areturn, 1), (.aload_n 0, 1), (.ldc 202, 2), (.invokevirtual 186, 3), (.ifCond .eq 9, 3), (.getstatic 204, 3), (.goto 6, 3), (.getstatic 207, 3), (.areturn, 1)])
def m_P_readRest : jw_M := (({ cls := "TemplateEngine$TemplateReader", name := "readRest", desc := "(LTemplateEngine$Sort;I)LTemplateEngine$Part;" } : Jvm.MethodName), prog_10_method_10_code, 4, (Option.some (Jvm.ClassFile.FieldType.object "TemplateEngine$Part")), jt_b [(.new 9, 3), (.dup, 1), (.aload_n 1, 1), (.iload_n 2, 1), (.invokespecial 17, 3), (.astore_n 3, 1), (.getstatic 129, 3), (.aload_n 1, 1), (.invokevirtual 138, 3), (.iaload, 1), (.tableswitch 97 4 9 #[38, 38, 38, 38, 38, 40], 38), (.aload_n 3, 1), (.areturn, 1), (.aload_n 3, 1), (.aload_n 0, 1), (.getfield 75, 3), (.aload_n 0, 1), (.getfield 72, 3), (.isub, 1), (.iconst 1, 1), (.if_icmp .ne 21, 3), (.aload_n 0, 1), (.getfield 38, 3), (.getfield 210, 3), (.aload_n 0, 1), (.getfield 72, 3), (.caload, 1), (.bipush 97, 2), (.isub, 1), (.goto 4, 3), (.iconst 4, 1), (.putfield 214, 3), (.aload_n 3, 1), (.getfield 214, 3), (.ifCond .lt 15, 3), (.aload_n 3, 1), (.getfield 214, 3), (.iconst 4, 1), (.if_icmp .ge 7, 3), (.aload_n 3, 1), (.goto 4, 3), (.aconst_null, 1), (.areturn, 1), (.aload_n 3, 1), (.aload_n 0, 1), (.invokevirtual 217, 3), (.putfield 221, 3), (.aload_n 3, 1), (.getfield 221, 3), (.ifnonnull 7, 3), (.aconst_null, 1), (.goto 4, 3), (.aload_n 3, 1), (.areturn, 1)])
def m_P_readExpression : jw_M := (({ cls := "TemplateEngine$TemplateReader", name := "readExpression", desc := "()LTemplateEngine$Expression;" } : Jvm.MethodName), prog_10_method_11_code, 4, (Option.some (Jvm.ClassFile.FieldType.object "TemplateEngine$Expression")), jt_b [(.aload_n 0, 1), (.invokevirtual 225, 3), (.astore_n 1, 1), (.aload_n 0, 1), (.invokevirtual 229, 3), (.astore_n 2, 1), (.aconst_null, 1), (.astore_n 3, 1), (.aload_n 2, 1), (.ifnull 35, 3), (.aload_n 1, 1), (.getfield 233, 3), (.iconst 2, 1), (.if_icmp .ne 27, 3), (.aload_n 0, 1), (.ldc 238, 2), (.invokevirtual 166, 3), (.ifCond .eq 10, 3), (.aload_n 0, 1), (.invokevirtual 229, 3), (.goto 4, 3), (.aconst_null, 1), (.astore_n 3, 1), (.aload_n 3, 1), (.ifnonnull 5, 3), (.aconst_null, 1), (.areturn, 1), (.aload_n 2, 1), (.ifnull 14, 3), (.aload_n 0, 1), (.getfield 72, 3), (.aload_n 0, 1), (.getfield 75, 3), (.if_icmp .eq 7, 3), (.aconst_null, 1), (.goto 13, 3), (.new 240, 3), (.dup, 1), (.aload_n 1, 1), (.aload_n 2, 1), (.aload_n 3, 1), (.invokespecial 242, 3), (.areturn, 1)])
def m_P_readHelper : jw_M := (({ cls := "TemplateEngine$TemplateReader", name := "readHelper", desc := "()LTemplateEngine$Helper;" } : Jvm.MethodName), prog_10_method_12_code, 2, (Option.some (Jvm.ClassFile.FieldType.object "TemplateEngine$Helper")), jt_b [(.iconst 0, 1), (.istore_n 1, 1), (.iload_n 1, 1), (.getstatic 245, 3), (.arraylength, 1), (.if_icmp .ge 41, 3), (.getstatic 245, 3), (.iload_n 1, 1), (.aaload, 1), (.getstatic 249, 3), (.if_acmp .eq 24, 3), (.aload_n 0, 1), (.getstatic 245, 3), (.iload_n 1, 1), (.aaload, 1), (.getfield 253, 3), (.invokevirtual 166, 3), (.ifCond .eq 9, 3), (.getstatic 245, 3), (.iload_n 1, 1), (.aaload, 1), (.areturn, 1), (.iinc 1 1, 3), (.goto (-43), 3), (.getstatic 249, 3), (.areturn, 1)])
def m_P_readOperand : jw_M := (({ cls := "TemplateEngine$TemplateReader", name := "readOperand", desc := "()LTemplateEngine$Operand;" } : Jvm.MethodName), prog_10_method_13_code, 1, (Option.some (Jvm.ClassFile.FieldType.object "TemplateEngine$Operand")), jt_b [(.aload_n 0, 1), (.invokevirtual 257, 3), (.ifCond .eq 8, 3), (.aload_n 0, 1), (.invokevirtual 260, 3), (.areturn, 1), (.aload_n 0, 1), (.ldc_w 263, 3), (.invokevirtual 166, 3), (.ifCond .eq 8, 3), (.aload_n 0, 1), (.invokevirtual 265, 3), (.areturn, 1), (.aload_n 0, 1), (.ldc_w 268, 3), (.invokevirtual 166, 3), (.ifCond .eq 14, 3), (.new 270, 3), (.dup, 1), (.getstatic 272, 3), (.invokespecial 278, 3), (.areturn, 1), (.aload_n 0, 1), (.ldc_w 281, 3), (.invokevirtual 166, 3), (.ifCond .eq 14, 3), (.new 270, 3), (.dup, 1), (.getstatic 283, 3), (.invokespecial 278, 3), (.areturn, 1), (.aload_n 0, 1), (.invokevirtual 286, 3), (.areturn, 1)])
def m_P_readNumber : jw_M := (({ cls := "TemplateEngine$TemplateReader", name := "readNumber", desc := "()LTemplateEngine$Operand;" } : Jvm.MethodName), prog_10_method_14_code, 3, (Option.some (Jvm.ClassFile.FieldType.object "TemplateEngine$Operand")), jt_b [(.iconst 0, 1), (.istore_n 1, 1), (.iconst 0, 1), (.istore_n 2, 1), (.iload_n 2, 1), (.iconst 5, 1), (.if_icmp .ge 26, 3), (.aload_n 0, 1), (.invokevirtual 257, 3), (.ifCond .eq 19, 3), (.iload_n 1, 1), (.bipush 10, 2), (.imul, 1), (.aload_n 0, 1), (.invokevirtual 289, 3), (.iadd, 1), (.istore_n 1, 1), (.iinc 2 1, 3), (.goto (-25), 3), (.new 270, 3), (.dup, 1), (.getstatic 292, 3), (.invokespecial 278, 3), (.astore_n 2, 1), (.aload_n 2, 1), (.iload_n 1, 1), (.invokestatic 295, 3), (.putfield 301, 3), (.aload_n 2, 1), (.areturn, 1)])
def m_P_readQuoted : jw_M := (({ cls := "TemplateEngine$TemplateReader", name := "readQuoted", desc := "()LTemplateEngine$Operand;" } : Jvm.MethodName), prog_10_method_15_code, 3, (Option.some (Jvm.ClassFile.FieldType.object "TemplateEngine$Operand")), jt_b [(.aload_n 0, 1), (.getfield 72, 3), (.istore_n 1, 1), (.iload_n 1, 1), (.aload_n 0, 1), (.getfield 75, 3), (.if_icmp .ge 76, 3), (.aload_n 0, 1), (.getfield 38, 3), (.getfield 210, 3), (.iload_n 1, 1), (.caload, 1), (.bipush 125, 2), (.if_icmp .eq 62, 3), (.aload_n 0, 1), (.getfield 38, 3), (.getfield 210, 3), (.iload_n 1, 1), (.caload, 1), (.bipush 34, 2), (.if_icmp .ne 42, 3), (.new 270, 3), (.dup, 1), (.getstatic 292, 3), (.invokespecial 278, 3), (.astore_n 2, 1), (.aload_n 2, 1), (.aload_n 0, 1), (.getfield 38, 3), (.aload_n 0, 1), (.getfield 72, 3), (.iload_n 1, 1), (.invokevirtual 102, 3), (.invokestatic 305, 3), (.putfield 301, 3), (.aload_n 0, 1), (.iload_n 1, 1), (.iconst 1, 1), (.iadd, 1), (.putfield 72, 3), (.aload_n 2, 1), (.areturn, 1), (.iinc 1 1, 3), (.goto (-78), 3), (.aconst_null, 1), (.areturn, 1)])
def m_P_readPath : jw_M := (({ cls := "TemplateEngine$TemplateReader", name := "readPath", desc := "()LTemplateEngine$Operand;" } : Jvm.MethodName), prog_10_method_16_code, 7, (Option.some (Jvm.ClassFile.FieldType.object "TemplateEngine$Operand")), jt_b [(.new 270, 3), (.dup, 1), (.getstatic 309, 3), (.invokespecial 278, 3), (.astore_n 1, 1), (.aload_n 1, 1), (.getfield 312, 3), (.sipush 200, 3), (.if_icmp .ge 26, 3), (.aload_n 0, 1), (.ldc_w 315, 3), (.invokevirtual 166, 3), (.ifCond .eq 16, 3), (.aload_n 1, 1), (.dup, 1), (.getfield 312, 3), (.iconst 1, 1), (.iadd, 1), (.putfield 312, 3), (.goto (-30), 3), (.aload_n 0, 1), (.getfield 72, 3), (.istore_n 2, 1), (.aload_n 0, 1), (.invokevirtual 317, 3), (.lstore_n 3, 1), (.aload_n 0, 1), (.getfield 72, 3), (.iload_n 2, 1), (.isub, 1), (.iconst 4, 1), (.if_icmp .ne 25, 3), (.aload_n 0, 1), (.getfield 38, 3), (.ldc_w 321, 3), (.iload_n 2, 1), (.aload_n 0, 1), (.getfield 72, 3), (.invokevirtual 59, 3), (.ifCond .eq 7, 3), (.iconst 1, 1), (.goto 4, 3), (.iconst 0, 1), (.istore 5, 2), (.iconst 0, 1), (.istore 6, 2), (.iload 5, 2), (.ifCond .ne 14, 3), (.aload_n 0, 1), (.getfield 34, 3), (.iload 6, 2), (.lload_n 3, 1), (.lastore, 1), (.iinc 6 1, 3), (.iload 5, 2), (.ifCond .ne 65, 3), (.lload_n 3, 1), (.lconst 0, 1), (.lcmp, 1), (.ifCond .eq 59, 3), (.iload 6, 2), (.aload_n 0, 1), (.getfield 34, 3), (.arraylength, 1), (.if_icmp .ge 49, 3), (.aload_n 0, 1), (.ldc_w 323, 3), (.invokevirtual 166, 3), (.ifCond .eq 39, 3), (.aload_n 0, 1), (.invokevirtual 257, 3), (.ifCond .eq 13, 3), (.iconst (-1), 1), (.aload_n 0, 1), (.invokevirtual 289, 3), (.isub, 1), (.i2l, 1), (.goto 7, 3), (.aload_n 0, 1), (.invokevirtual 317, 3), (.lstore_n 3, 1), (.aload_n 0, 1), (.getfield 34, 3), (.iload 6, 2), (.lload_n 3, 1), (.lastore, 1), (.iinc 6 1, 3), (.goto (-64), 3), (.aload_n 1, 1), (.aload_n 0, 1), (.getfield 34, 3), (.iload 6, 2), (.invokestatic 325, 3), (.putfield 330, 3), (.lload_n 3, 1), (.lconst 0, 1), (.lcmp, 1), (.ifCond .ne 7, 3), (.aconst_null, 1), (.goto 4, 3), (.aload_n 1, 1), (.areturn, 1)])
def m_P_readName : jw_M := (({ cls := "TemplateEngine$TemplateReader", name := "readName", desc := "()J" } : Jvm.MethodName), prog_10_method_17_code, 2, (Option.some Jvm.ClassFile.FieldType.long), jt_b [(.aload_n 0, 1), (.getfield 72, 3), (.istore_n 1, 1), (.aload_n 0, 1), (.getfield 72, 3), (.aload_n 0, 1), (.getfield 75, 3), (.if_icmp .ge 50, 3), (.aload_n 0, 1), (.getfield 38, 3), (.getfield 210, 3), (.aload_n 0, 1), (.getfield 72, 3), (.caload, 1), (.bipush 97, 2), (.if_icmp .lt 33, 3), (.aload_n 0, 1), (.getfield 38, 3), (.getfield 210, 3), (.aload_n 0, 1), (.getfield 72, 3), (.caload, 1), (.bipush 122, 2), (.if_icmp .gt 16, 3), (.aload_n 0, 1), (.dup, 1), (.getfield 72, 3), (.iconst 1, 1), (.iadd, 1), (.putfield 72, 3), (.goto (-55), 3), (.aload_n 0, 1), (.getfield 38, 3), (.iload_n 1, 1), (.aload_n 0, 1), (.getfield 72, 3), (.invokevirtual 331, 3), (.lreturn, 1)])
def m_P_isDigitNext : jw_M := (({ cls := "TemplateEngine$TemplateReader", name := "isDigitNext", desc := "()Z" } : Jvm.MethodName), prog_10_method_18_code, 1, (Option.some Jvm.ClassFile.FieldType.boolean), jt_b [(.aload_n 0, 1), (.getfield 72, 3), (.aload_n 0, 1), (.getfield 75, 3), (.if_icmp .ge 41, 3), (.aload_n 0, 1), (.getfield 38, 3), (.getfield 210, 3), (.aload_n 0, 1), (.getfield 72, 3), (.caload, 1), (.bipush 48, 2), (.if_icmp .lt 24, 3), (.aload_n 0, 1), (.getfield 38, 3), (.getfield 210, 3), (.aload_n 0, 1), (.getfield 72, 3), (.caload, 1), (.bipush 57, 2), (.if_icmp .gt 7, 3), (.iconst 1, 1), (.goto 4, 3), (.iconst 0, 1), (.ireturn, 1)])
def m_P_readDigit : jw_M := (({ cls := "TemplateEngine$TemplateReader", name := "readDigit", desc := "()I" } : Jvm.MethodName), prog_10_method_19_code, 1, (Option.some Jvm.ClassFile.FieldType.int), jt_b [(.aload_n 0, 1), (.dup, 1), (.getfield 72, 3), (.iconst 1, 1), (.iadd, 1), (.putfield 72, 3), (.aload_n 0, 1), (.getfield 38, 3), (.getfield 210, 3), (.aload_n 0, 1), (.getfield 72, 3), (.iconst 1, 1), (.isub, 1), (.caload, 1), (.bipush 48, 2), (.isub, 1), (.ireturn, 1)])
def m_P_accept : jw_M := (({ cls := "TemplateEngine$TemplateReader", name := "accept", desc := "(Ljava/lang/String;)Z" } : Jvm.MethodName), prog_10_method_20_code, 3, (Option.some Jvm.ClassFile.FieldType.boolean), jt_b [(.aload_n 0, 1), (.getfield 38, 3), (.aload_n 1, 1), (.aload_n 0, 1), (.getfield 72, 3), (.aload_n 0, 1), (.getfield 75, 3), (.invokevirtual 59, 3), (.istore_n 2, 1), (.iload_n 2, 1), (.ifCond .eq 16, 3), (.aload_n 0, 1), (.dup, 1), (.getfield 72, 3), (.aload_n 1, 1), (.invokevirtual 67, 3), (.iadd, 1), (.putfield 72, 3), (.iload_n 2, 1), (.ireturn, 1)])
def m_P_isInside : jw_M := (({ cls := "TemplateEngine$TemplateReader", name := "isInside", desc := "(Ljava/lang/String;)Z" } : Jvm.MethodName), prog_10_method_21_code, 2, (Option.some Jvm.ClassFile.FieldType.boolean), jt_b [(.aload_n 0, 1), (.getfield 75, 3), (.aload_n 0, 1), (.getfield 72, 3), (.isub, 1), (.aload_n 1, 1), (.invokevirtual 67, 3), (.if_icmp .ne 26, 3), (.aload_n 0, 1), (.getfield 38, 3), (.aload_n 1, 1), (.aload_n 0, 1), (.getfield 72, 3), (.aload_n 0, 1), (.getfield 75, 3), (.invokevirtual 59, 3), (.ifCond .eq 7, 3), (.iconst 1, 1), (.goto 4, 3), (.iconst 0, 1), (.ireturn, 1)])
def m_T_init : jw_M := (({ cls := "TemplateEngine$Text", name := "<init>", desc := "(I)V" } : Jvm.MethodName), prog_11_method_1_code, 2, (Option.none : Option Jvm.ClassFile.FieldType), jt_b [(.aload_n 0, 1), (.invokespecial 3, 3), (.aload_n 0, 1), (.iload_n 1, 1), (.newarray .char, 2), (.putfield 9, 3), (.return_, 1)])
def m_T_clear : jw_M := (({ cls := "TemplateEngine$Text", name := "clear", desc := "()V" } : Jvm.MethodName), prog_11_method_2_code, 1, (Option.none : Option Jvm.ClassFile.FieldType), jt_b [(.aload_n 0, 1), (.iconst 0, 1), (.putfield 15, 3), (.return_, 1)])
def m_T_append : jw_M := (({ cls := "TemplateEngine$Text", name := "append", desc := "(C)V" } : Jvm.MethodName), prog_11_method_3_code, 2, (Option.none : Option Jvm.ClassFile.FieldType), jt_b [(.aload_n 0, 1), (.getfield 15, 3), (.aload_n 0, 1), (.getfield 9, 3), (.arraylength, 1), (.if_icmp .lt 13, 3), (.new 19, 3), (.dup, 1), (.ldc 21, 2), (.invokespecial 23, 3), (.athrow, 1), (.aload_n 0, 1), (.getfield 9, 3), (.aload_n 0, 1), (.getfield 15, 3), (.iload_n 1, 1), (.castore, 1), (.aload_n 0, 1), (.dup, 1), (.getfield 15, 3), (.iconst 1, 1), (.iadd, 1), (.putfield 15, 3), (.return_, 1)])
def m_T_appendWord : jw_M := (({ cls := "TemplateEngine$Text", name := "appendWord", desc := "(Ljava/lang/String;)V" } : Jvm.MethodName), prog_11_method_4_code, 3, (Option.none : Option Jvm.ClassFile.FieldType), jt_b [(.iconst 0, 1), (.istore_n 2, 1), (.iload_n 2, 1), (.aload_n 1, 1), (.invokevirtual 26, 3), (.if_icmp .ge 18, 3), (.aload_n 0, 1), (.aload_n 1, 1), (.iload_n 2, 1), (.invokevirtual 31, 3), (.invokevirtual 35, 3), (.iinc 2 1, 3), (.goto (-20), 3), (.return_, 1)])
def m_T_appendText : jw_M := (({ cls := "TemplateEngine$Text", name := "appendText", desc := "(LTemplateEngine$Text;)V" } : Jvm.MethodName), prog_11_method_5_code, 3, (Option.none : Option Jvm.ClassFile.FieldType), jt_b [(.iconst 0, 1), (.istore_n 2, 1), (.iload_n 2, 1), (.aload_n 1, 1), (.getfield 15, 3), (.if_icmp .ge 19, 3), (.aload_n 0, 1), (.aload_n 1, 1), (.getfield 9, 3), (.iload_n 2, 1), (.caload, 1), (.invokevirtual 35, 3), (.iinc 2 1, 3), (.goto (-21), 3), (.return_, 1)])
def m_T_appendEscaped : jw_M := (({ cls := "TemplateEngine$Text", name := "appendEscaped", desc := "(LTemplateEngine$Text;)V" } : Jvm.MethodName), prog_11_method_6_code, 4, (Option.none : Option Jvm.ClassFile.FieldType), jt_b [(.iconst 0, 1), (.istore_n 2, 1), (.iload_n 2, 1), (.aload_n 1, 1), (.getfield 15, 3), (.if_icmp .ge 81, 3), (.aload_n 1, 1), (.getfield 9, 3), (.iload_n 2, 1), (.caload, 1), (.istore_n 3, 1), (.iload_n 3, 1), (.bipush 38, 2), (.if_icmp .ne 12, 3), (.aload_n 0, 1), (.ldc 39, 2), (.invokevirtual 41, 3), (.goto 53, 3), (.iload_n 3, 1), (.bipush 60, 2), (.if_icmp .ne 12, 3), (.aload_n 0, 1), (.ldc 44, 2), (.invokevirtual 41, 3), (.goto 38, 3), (.iload_n 3, 1), (.bipush 62, 2), (.if_icmp .ne 12, 3), (.aload_n 0, 1), (.ldc 46, 2), (.invokevirtual 41, 3), (.goto 23, 3), (.iload_n 3, 1), (.bipush 34, 2), (.if_icmp .ne 12, 3), (.aload_n 0, 1), (.ldc 48, 2), (.invokevirtual 41, 3), (.goto 8, 3), (.aload_n 0, 1), (.iload_n 3, 1), (.invokevirtual 35, 3), (.iinc 2 1, 3), (.goto (-83), 3), (.return_, 1)])
def m_T_appendNumber : jw_M := (({ cls := "TemplateEngine$Text", name := "appendNumber", desc := "(I)V" } : Jvm.MethodName), prog_11_method_7_code, 4, (Option.none : Option Jvm.ClassFile.FieldType), jt_b [(.iload_n 1, 1), (.ifCond .ge 9, 3), (.aload_n 0, 1), (.bipush 45, 2), (.invokevirtual 35, 3), (.iconst 1, 1), (.istore_n 2, 1), (.iload_n 1, 1), (.bipush 10, 2), (.idiv, 1), (.istore_n 3, 1), (.iload_n 3, 1), (.ifCond .eq 16, 3), (.iload_n 2, 1), (.bipush 10, 2), (.imul, 1), (.istore_n 2, 1), (.iload_n 3, 1), (.bipush 10, 2), (.idiv, 1), (.istore_n 3, 1), (.goto (-14), 3), (.iload_n 2, 1), (.ifCond .eq 28, 3), (.aload_n 0, 1), (.bipush 48, 2), (.iload_n 1, 1), (.iload_n 2, 1), (.idiv, 1), (.bipush 10, 2), (.irem, 1), (.invokestatic 50, 3), (.iadd, 1), (.i2c, 1), (.invokevirtual 35, 3), (.iload_n 2, 1), (.bipush 10, 2), (.idiv, 1), (.istore_n 2, 1), (.goto (-26), 3), (.return_, 1)])
def m_T_raiseLetters : jw_M := (({ cls := "TemplateEngine$Text", name := "raiseLetters", desc := "()V" } : Jvm.MethodName), prog_11_method_8_code, 2, (Option.none : Option Jvm.ClassFile.FieldType), jt_b [(.iconst 0, 1), (.istore_n 1, 1), (.iload_n 1, 1), (.aload_n 0, 1), (.getfield 15, 3), (.if_icmp .ge 50, 3), (.aload_n 0, 1), (.getfield 9, 3), (.iload_n 1, 1), (.caload, 1), (.bipush 97, 2), (.if_icmp .lt 33, 3), (.aload_n 0, 1), (.getfield 9, 3), (.iload_n 1, 1), (.caload, 1), (.bipush 122, 2), (.if_icmp .gt 22, 3), (.aload_n 0, 1), (.getfield 9, 3), (.iload_n 1, 1), (.aload_n 0, 1), (.getfield 9, 3), (.iload_n 1, 1), (.caload, 1), (.bipush 97, 2), (.isub, 1), (.bipush 65, 2), (.iadd, 1), (.i2c, 1), (.castore, 1), (.iinc 1 1, 3), (.goto (-52), 3), (.return_, 1)])
def m_T_copyOf : jw_M := (({ cls := "TemplateEngine$Text", name := "copyOf", desc := "(II)LTemplateEngine$Text;" } : Jvm.MethodName), prog_11_method_9_code, 5, (Option.some (Jvm.ClassFile.FieldType.object "TemplateEngine$Text")), jt_b [(.new 10, 3), (.dup, 1), (.iconst 0, 1), (.iload_n 2, 1), (.iload_n 1, 1), (.isub, 1), (.invokestatic 56, 3), (.invokespecial 60, 3), (.astore_n 3, 1), (.iload_n 1, 1), (.istore 4, 2), (.iload 4, 2), (.iload_n 2, 1), (.if_icmp .ge 20, 3), (.aload_n 3, 1), (.aload_n 0, 1), (.getfield 9, 3), (.iload 4, 2), (.caload, 1), (.invokevirtual 35, 3), (.iinc 4 1, 3), (.goto (-20), 3), (.aload_n 3, 1), (.areturn, 1)])
def m_T_isLike : jw_M := (({ cls := "TemplateEngine$Text", name := "isLike", desc := "(LTemplateEngine$Text;)Z" } : Jvm.MethodName), prog_11_method_10_code, 3, (Option.some Jvm.ClassFile.FieldType.boolean), jt_b [(.aload_n 0, 1), (.getfield 15, 3), (.aload_n 1, 1), (.getfield 15, 3), (.if_icmp .eq 5, 3), (.iconst 0, 1), (.ireturn, 1), (.iconst 0, 1), (.istore_n 2, 1), (.iload_n 2, 1), (.aload_n 0, 1), (.getfield 15, 3), (.if_icmp .ge 26, 3), (.aload_n 0, 1), (.getfield 9, 3), (.iload_n 2, 1), (.caload, 1), (.aload_n 1, 1), (.getfield 9, 3), (.iload_n 2, 1), (.caload, 1), (.if_icmp .eq 5, 3), (.iconst 0, 1), (.ireturn, 1), (.iinc 2 1, 3), (.goto (-28), 3), (.iconst 1, 1), (.ireturn, 1)])
def m_T_hasWord : jw_M := (({ cls := "TemplateEngine$Text", name := "hasWord", desc := "(Ljava/lang/String;II)Z" } : Jvm.MethodName), prog_11_method_11_code, 5, (Option.some Jvm.ClassFile.FieldType.boolean), jt_b [(.iload_n 2, 1), (.aload_n 1, 1), (.invokevirtual 26, 3), (.iadd, 1), (.iload_n 3, 1), (.if_icmp .gt 11, 3), (.iload_n 3, 1), (.aload_n 0, 1), (.getfield 15, 3), (.if_icmp .le 5, 3), (.iconst 0, 1), (.ireturn, 1), (.iconst 0, 1), (.istore 4, 2), (.iload 4, 2), (.aload_n 1, 1), (.invokevirtual 26, 3), (.if_icmp .ge 29, 3), (.aload_n 0, 1), (.getfield 9, 3), (.iload_n 2, 1), (.iload 4, 2), (.iadd, 1), (.caload, 1), (.aload_n 1, 1), (.iload 4, 2), (.invokevirtual 31, 3), (.if_icmp .eq 5, 3), (.iconst 0, 1), (.ireturn, 1), (.iinc 4 1, 3), (.goto (-32), 3), (.iconst 1, 1), (.ireturn, 1)])
def m_T_find : jw_M := (({ cls := "TemplateEngine$Text", name := "find", desc := "(Ljava/lang/String;I)I" } : Jvm.MethodName), prog_11_method_12_code, 4, (Option.some Jvm.ClassFile.FieldType.int), jt_b [(.iload_n 2, 1), (.istore_n 3, 1), (.iload_n 3, 1), (.aload_n 0, 1), (.getfield 15, 3), (.if_icmp .ge 24, 3), (.aload_n 0, 1), (.aload_n 1, 1), (.iload_n 3, 1), (.aload_n 0, 1), (.getfield 15, 3), (.invokevirtual 63, 3), (.ifCond .eq 5, 3), (.iload_n 3, 1), (.ireturn, 1), (.iinc 3 1, 3), (.goto (-26), 3), (.aload_n 0, 1), (.getfield 15, 3), (.ireturn, 1)])
def m_T_nameCode : jw_M := (({ cls := "TemplateEngine$Text", name := "nameCode", desc := "(II)J" } : Jvm.MethodName), prog_11_method_13_code, 6, (Option.some Jvm.ClassFile.FieldType.long), jt_b [(.iload_n 2, 1), (.iload_n 1, 1), (.if_icmp .le 11, 3), (.iload_n 2, 1), (.iload_n 1, 1), (.isub, 1), (.bipush 8, 2), (.if_icmp .le 5, 3), (.lconst 0, 1), (.lreturn, 1), (.lconst 0, 1), (.lstore_n 3, 1), (.iload_n 1, 1), (.istore 5, 2), (.iload 5, 2), (.iload_n 2, 1), (.if_icmp .ge 55, 3), (.aload_n 0, 1), (.getfield 9, 3), (.iload 5, 2), (.caload, 1), (.bipush 97, 2), (.if_icmp .lt 15, 3), (.aload_n 0, 1), (.getfield 9, 3), (.iload 5, 2), (.caload, 1), (.bipush 122, 2), (.if_icmp .le 5, 3), (.lconst 0, 1), (.lreturn, 1), (.lload_n 3, 1), (.ldc2_w 67, 3), (.lmul, 1), (.aload_n 0, 1), (.getfield 9, 3), (.iload 5, 2), (.caload, 1), (.bipush 97, 2), (.isub, 1), (.iconst 1, 1), (.iadd, 1), (.i2l, 1), (.ladd, 1), (.lstore_n 3, 1), (.iinc 5 1, 3), (.goto (-55), 3), (.lload_n 3, 1), (.lreturn, 1)])
def m_V_init : jw_M := (({ cls := "TemplateEngine$Value", name := "<init>", desc := "()V" } : Jvm.MethodName), prog_12_method_1_code, 1, (Option.none : Option Jvm.ClassFile.FieldType), jt_b [(.aload_n 0, 1), (.invokespecial 3, 3), (.return_, 1)])
def m_V_ofNumber : jw_M := (({ cls := "TemplateEngine$Value", name := "ofNumber", desc := "(I)LTemplateEngine$Value;" } : Jvm.MethodName), prog_12_method_2_code, 2, (Option.some (Jvm.ClassFile.FieldType.object "TemplateEngine$Value")), jt_b [(.new 9, 3), (.dup, 1), (.invokespecial 11, 3), (.astore_n 1, 1), (.aload_n 1, 1), (.iconst 0, 1), (.putfield 12, 3), (.aload_n 1, 1), (.iload_n 0, 1), (.putfield 16, 3), (.aload_n 1, 1), (.areturn, 1)])
def m_V_ofText : jw_M := (({ cls := "TemplateEngine$Value", name := "ofText", desc := "(LTemplateEngine$Text;)LTemplateEngine$Value;" } : Jvm.MethodName), prog_12_method_3_code, 2, (Option.some (Jvm.ClassFile.FieldType.object "TemplateEngine$Value")), jt_b [(.new 9, 3), (.dup, 1), (.invokespecial 11, 3), (.astore_n 1, 1), (.aload_n 1, 1), (.iconst 1, 1), (.putfield 12, 3), (.aload_n 1, 1), (.aload_n 0, 1), (.putfield 19, 3), (.aload_n 1, 1), (.areturn, 1)])
def m_V_ofEntries : jw_M := (({ cls := "TemplateEngine$Value", name := "ofEntries", desc := "(I)LTemplateEngine$Value;" } : Jvm.MethodName), prog_12_method_4_code, 2, (Option.some (Jvm.ClassFile.FieldType.object "TemplateEngine$Value")), jt_b [(.new 9, 3), (.dup, 1), (.invokespecial 11, 3), (.astore_n 1, 1), (.aload_n 1, 1), (.iload_n 0, 1), (.putfield 12, 3), (.aload_n 1, 1), (.bipush 10, 2), (.anewarray 9, 3), (.putfield 23, 3), (.aload_n 1, 1), (.bipush 10, 2), (.newarray .long, 2), (.putfield 27, 3), (.aload_n 1, 1), (.areturn, 1)])
def m_V_becomeNumber : jw_M := (({ cls := "TemplateEngine$Value", name := "becomeNumber", desc := "(I)LTemplateEngine$Value;" } : Jvm.MethodName), prog_12_method_5_code, 2, (Option.some (Jvm.ClassFile.FieldType.object "TemplateEngine$Value")), jt_b [(.aload_n 0, 1), (.iconst 0, 1), (.putfield 12, 3), (.aload_n 0, 1), (.iload_n 1, 1), (.putfield 16, 3), (.aload_n 0, 1), (.areturn, 1)])
def m_V_setEntry : jw_M := (({ cls := "TemplateEngine$Value", name := "setEntry", desc := "(IJLTemplateEngine$Value;)V" } : Jvm.MethodName), prog_12_method_6_code, 5, (Option.none : Option Jvm.ClassFile.FieldType), jt_b [(.aload_n 0, 1), (.getfield 23, 3), (.iload_n 1, 1), (.aload 4, 2), (.aastore, 1), (.aload_n 0, 1), (.getfield 27, 3), (.iload_n 1, 1), (.lload_n 2, 1), (.lastore, 1), (.aload_n 0, 1), (.aload_n 0, 1), (.getfield 31, 3), (.iload_n 1, 1), (.iconst 1, 1), (.iadd, 1), (.invokestatic 34, 3), (.putfield 31, 3), (.return_, 1)])
def m_V_placeOf : jw_M := (({ cls := "TemplateEngine$Value", name := "placeOf", desc := "(J)I" } : Jvm.MethodName), prog_12_method_7_code, 4, (Option.some Jvm.ClassFile.FieldType.int), jt_b [(.iconst 0, 1), (.istore_n 3, 1), (.iload_n 3, 1), (.aload_n 0, 1), (.getfield 31, 3), (.if_icmp .ge 22, 3), (.aload_n 0, 1), (.getfield 27, 3), (.iload_n 3, 1), (.laload, 1), (.lload_n 1, 1), (.lcmp, 1), (.ifCond .ne 5, 3), (.iload_n 3, 1), (.ireturn, 1), (.iinc 3 1, 3), (.goto (-24), 3), (.aload_n 0, 1), (.getfield 31, 3), (.ireturn, 1)])
def m_V_entryNamed : jw_M := (({ cls := "TemplateEngine$Value", name := "entryNamed", desc := "(J)LTemplateEngine$Value;" } : Jvm.MethodName), prog_12_method_8_code, 4, (Option.some (Jvm.ClassFile.FieldType.object "TemplateEngine$Value")), jt_b [(.iconst 0, 1), (.istore_n 3, 1), (.iload_n 3, 1), (.aload_n 0, 1), (.getfield 31, 3), (.if_icmp .ge 27, 3), (.aload_n 0, 1), (.getfield 27, 3), (.iload_n 3, 1), (.laload, 1), (.lload_n 1, 1), (.lcmp, 1), (.ifCond .ne 10, 3), (.aload_n 0, 1), (.getfield 23, 3), (.iload_n 3, 1), (.aaload, 1), (.areturn, 1), (.iinc 3 1, 3), (.goto (-29), 3), (.aconst_null, 1), (.areturn, 1)])
def m_V_elementAt : jw_M := (({ cls := "TemplateEngine$Value", name := "elementAt", desc := "(I)LTemplateEngine$Value;" } : Jvm.MethodName), prog_12_method_9_code, 2, (Option.some (Jvm.ClassFile.FieldType.object "TemplateEngine$Value")), jt_b [(.aload_n 0, 1), (.getfield 12, 3), (.iconst 2, 1), (.if_icmp .ne 24, 3), (.iload_n 1, 1), (.ifCond .lt 20, 3), (.iload_n 1, 1), (.aload_n 0, 1), (.getfield 31, 3), (.if_icmp .ge 12, 3), (.aload_n 0, 1), (.getfield 23, 3), (.iload_n 1, 1), (.aaload, 1), (.goto 4, 3), (.aconst_null, 1), (.areturn, 1)])
def m_V_isFalse : jw_M := (({ cls := "TemplateEngine$Value", name := "isFalse", desc := "()Z" } : Jvm.MethodName), prog_12_method_10_code, 1, (Option.some Jvm.ClassFile.FieldType.boolean), jt_b [(.aload_n 0, 1), (.getfield 12, 3), (.tableswitch 70 0 2 #[28, 41, 57], 28), (.aload_n 0, 1), (.getfield 16, 3), (.ifCond .ne 7, 3), (.iconst 1, 1), (.goto 4, 3), (.iconst 0, 1), (.ireturn, 1), (.aload_n 0, 1), (.getfield 19, 3), (.getfield 40, 3), (.ifCond .ne 7, 3), (.iconst 1, 1), (.goto 4, 3), (.iconst 0, 1), (.ireturn, 1), (.aload_n 0, 1), (.getfield 31, 3), (.ifCond .ne 7, 3), (.iconst 1, 1), (.goto 4, 3), (.iconst 0, 1), (.ireturn, 1), (.iconst 0, 1), (.ireturn, 1)])
def m_V_measure : jw_M := (({ cls := "TemplateEngine$Value", name := "measure", desc := "()I" } : Jvm.MethodName), prog_12_method_11_code, 3, (Option.some Jvm.ClassFile.FieldType.int), jt_b [(.aload_n 0, 1), (.getfield 12, 3), (.iconst 1, 1), (.if_icmp .ne 11, 3), (.aload_n 0, 1), (.getfield 19, 3), (.getfield 40, 3), (.ireturn, 1), (.aload_n 0, 1), (.getfield 12, 3), (.ifCond .eq 8, 3), (.aload_n 0, 1), (.getfield 31, 3), (.ireturn, 1), (.aload_n 0, 1), (.getfield 16, 3), (.ifCond .ge 7, 3), (.iconst 2, 1), (.goto 4, 3), (.iconst 1, 1), (.istore_n 1, 1), (.aload_n 0, 1), (.getfield 16, 3), (.bipush 10, 2), (.idiv, 1), (.istore_n 2, 1), (.iload_n 2, 1), (.ifCond .eq 14, 3), (.iinc 1 1, 3), (.iload_n 2, 1), (.bipush 10, 2), (.idiv, 1), (.istore_n 2, 1), (.goto (-12), 3), (.iload_n 1, 1), (.ireturn, 1)])
def m_L_type : jw_M := (({ cls := "TemplateEngineLaw", name := "type", desc := "(LTemplateEngine;I[J)I" } : Jvm.MethodName), method_3_code, 4, (Option.some Jvm.ClassFile.FieldType.int), jt_b [(.aload_n 2, 1), (.iconst 0, 1), (.aload_n 0, 1), (.iload_n 1, 1), (.invokevirtual 7, 3), (.i2l, 1), (.lastore, 1), (.goto 9, 3), (.astore_n 3, 1), (.iconst 1, 1), (.ireturn, 1), (.astore_n 3, 1), (.iconst 2, 1), (.ireturn, 1), (.iconst 0, 1), (.ireturn, 1)])
def m_L_number : jw_M := (({ cls := "TemplateEngineLaw", name := "number", desc := "(LTemplateEngine;I[J)I" } : Jvm.MethodName), method_4_code, 4, (Option.some Jvm.ClassFile.FieldType.int), jt_b [(.aload_n 2, 1), (.iconst 0, 1), (.aload_n 0, 1), (.iload_n 1, 1), (.invokevirtual 17, 3), (.i2l, 1), (.lastore, 1), (.goto 6, 3), (.astore_n 3, 1), (.iconst 1, 1), (.ireturn, 1), (.iconst 0, 1), (.ireturn, 1)])
def m_L_text : jw_M := (({ cls := "TemplateEngineLaw", name := "text", desc := "(LTemplateEngine;[J)I" } : Jvm.MethodName), method_5_code, 3, (Option.some Jvm.ClassFile.FieldType.int), jt_b [(.aload_n 1, 1), (.iconst 0, 1), (.aload_n 0, 1), (.invokevirtual 20, 3), (.i2l, 1), (.lastore, 1), (.goto 6, 3), (.astore_n 2, 1), (.iconst 1, 1), (.ireturn, 1), (.iconst 0, 1), (.ireturn, 1)])
def m_L_list : jw_M := (({ cls := "TemplateEngineLaw", name := "list", desc := "(LTemplateEngine;[J)I" } : Jvm.MethodName), method_6_code, 3, (Option.some Jvm.ClassFile.FieldType.int), jt_b [(.aload_n 1, 1), (.iconst 0, 1), (.aload_n 0, 1), (.invokevirtual 24, 3), (.i2l, 1), (.lastore, 1), (.goto 6, 3), (.astore_n 2, 1), (.iconst 1, 1), (.ireturn, 1), (.iconst 0, 1), (.ireturn, 1)])
def m_L_map : jw_M := (({ cls := "TemplateEngineLaw", name := "map", desc := "(LTemplateEngine;[J)I" } : Jvm.MethodName), method_7_code, 3, (Option.some Jvm.ClassFile.FieldType.int), jt_b [(.aload_n 1, 1), (.iconst 0, 1), (.aload_n 0, 1), (.invokevirtual 27, 3), (.i2l, 1), (.lastore, 1), (.goto 6, 3), (.astore_n 2, 1), (.iconst 1, 1), (.ireturn, 1), (.iconst 0, 1), (.ireturn, 1)])
def m_L_add : jw_M := (({ cls := "TemplateEngineLaw", name := "add", desc := "(LTemplateEngine;II[J)I" } : Jvm.MethodName), method_8_code, 5, (Option.some Jvm.ClassFile.FieldType.int), jt_b [(.aload_n 3, 1), (.iconst 0, 1), (.aload_n 0, 1), (.iload_n 1, 1), (.iload_n 2, 1), (.invokevirtual 30, 3), (.i2l, 1), (.lastore, 1), (.goto 15, 3), (.astore 4, 2), (.iconst 1, 1), (.ireturn, 1), (.astore 4, 2), (.iconst 2, 1), (.ireturn, 1), (.astore 4, 2), (.iconst 3, 1), (.ireturn, 1), (.iconst 0, 1), (.ireturn, 1)])
def m_L_put : jw_M := (({ cls := "TemplateEngineLaw", name := "put", desc := "(LTemplateEngine;II[J)I" } : Jvm.MethodName), method_9_code, 5, (Option.some Jvm.ClassFile.FieldType.int), jt_b [(.aload_n 3, 1), (.iconst 0, 1), (.aload_n 0, 1), (.iload_n 1, 1), (.iload_n 2, 1), (.invokevirtual 36, 3), (.i2l, 1), (.lastore, 1), (.goto 15, 3), (.astore 4, 2), (.iconst 1, 1), (.ireturn, 1), (.astore 4, 2), (.iconst 2, 1), (.ireturn, 1), (.astore 4, 2), (.iconst 3, 1), (.ireturn, 1), (.iconst 0, 1), (.ireturn, 1)])
def m_L_compile : jw_M := (({ cls := "TemplateEngineLaw", name := "compile", desc := "(LTemplateEngine;I[J)I" } : Jvm.MethodName), method_10_code, 4, (Option.some Jvm.ClassFile.FieldType.int), jt_b [(.aload_n 2, 1), (.iconst 0, 1), (.aload_n 0, 1), (.iload_n 1, 1), (.invokevirtual 39, 3), (.i2l, 1), (.lastore, 1), (.goto 9, 3), (.astore_n 3, 1), (.iconst 1, 1), (.ireturn, 1), (.astore_n 3, 1), (.iconst 2, 1), (.ireturn, 1), (.iconst 0, 1), (.ireturn, 1)])
def m_L_render : jw_M := (({ cls := "TemplateEngineLaw", name := "render", desc := "(LTemplateEngine;II[J)I" } : Jvm.MethodName), method_11_code, 5, (Option.some Jvm.ClassFile.FieldType.int), jt_b [(.aload_n 3, 1), (.iconst 0, 1), (.aload_n 0, 1), (.iload_n 1, 1), (.iload_n 2, 1), (.invokevirtual 44, 3), (.i2l, 1), (.lastore, 1), (.goto 19, 3), (.astore 4, 2), (.iconst 1, 1), (.ireturn, 1), (.astore 4, 2), (.iconst 2, 1), (.ireturn, 1), (.astore 4, 2), (.iconst 3, 1), (.ireturn, 1), (.astore 4, 2), (.iconst 4, 1), (.ireturn, 1), (.iconst 0, 1), (.ireturn, 1)])
def m_L_at : jw_M := (({ cls := "TemplateEngineLaw", name := "at", desc := "(LTemplateEngine;I[J)I" } : Jvm.MethodName), method_12_code, 4, (Option.some Jvm.ClassFile.FieldType.int), jt_b [(.aload_n 2, 1), (.iconst 0, 1), (.aload_n 0, 1), (.iload_n 1, 1), (.invokevirtual 49, 3), (.i2l, 1), (.lastore, 1), (.goto 6, 3), (.astore_n 3, 1), (.iconst 1, 1), (.ireturn, 1), (.iconst 0, 1), (.ireturn, 1)])
def m_L_kind : jw_M := (({ cls := "TemplateEngineLaw", name := "kind", desc := "(LTemplateEngine;I[J)I" } : Jvm.MethodName), method_13_code, 4, (Option.some Jvm.ClassFile.FieldType.int), jt_b [(.aload_n 2, 1), (.iconst 0, 1), (.aload_n 0, 1), (.iload_n 1, 1), (.invokevirtual 52, 3), (.i2l, 1), (.lastore, 1), (.goto 6, 3), (.astore_n 3, 1), (.iconst 1, 1), (.ireturn, 1), (.iconst 0, 1), (.ireturn, 1)])
def m_L_size : jw_M := (({ cls := "TemplateEngineLaw", name := "size", desc := "(LTemplateEngine;I[J)I" } : Jvm.MethodName), method_14_code, 4, (Option.some Jvm.ClassFile.FieldType.int), jt_b [(.aload_n 2, 1), (.iconst 0, 1), (.aload_n 0, 1), (.iload_n 1, 1), (.invokevirtual 55, 3), (.i2l, 1), (.lastore, 1), (.goto 6, 3), (.astore_n 3, 1), (.iconst 1, 1), (.ireturn, 1), (.iconst 0, 1), (.ireturn, 1)])
theorem l_E_init : jl_m m_E_init 0 := ⟨jt_i1 34 rfl rfl, jt_i1 1 rfl rfl, ⟨by decide, by decide, by decide +kernel⟩, by decide⟩
theorem i_E_init : Cond.instanceMethod m_E_init.1 ∈ jw_big := jt_i1 33 rfl rfl
theorem l_E_type : jl_m m_E_type 1 := ⟨jt_i1 199 rfl rfl, jt_i1 1 rfl rfl, ⟨by decide, by decide, by decide +kernel⟩, by decide⟩
theorem i_E_type : Cond.instanceMethod m_E_type.1 ∈ jw_big := jt_i1 197 rfl rfl
theorem s_E_type : Cond.selects m_E_type.1.cls m_E_type.1 m_E_type.1 ∈ jw_big := jt_i1 198 rfl rfl
theorem l_E_number : jl_m m_E_number 1 := ⟨jt_i2 59 rfl rfl, jt_i1 1 rfl rfl, ⟨by decide, by decide, by decide +kernel⟩, by decide⟩
theorem i_E_number : Cond.instanceMethod m_E_number.1 ∈ jw_big := jt_i2 57 rfl rfl
theorem s_E_number : Cond.selects m_E_number.1.cls m_E_number.1 m_E_number.1 ∈ jw_big := jt_i2 58 rfl rfl
theorem l_E_text : jl_m m_E_text 0 := ⟨jt_i2 72 rfl rfl, jt_i1 1 rfl rfl, ⟨by decide, by decide, by decide +kernel⟩, by decide⟩
theorem i_E_text : Cond.instanceMethod m_E_text.1 ∈ jw_big := jt_i2 70 rfl rfl
theorem s_E_text : Cond.selects m_E_text.1.cls m_E_text.1 m_E_text.1 ∈ jw_big := jt_i2 71 rfl rfl
theorem l_E_list : jl_m m_E_list 0 := ⟨jt_i2 94 rfl rfl, jt_i1 1 rfl rfl, ⟨by decide, by decide, by decide +kernel⟩, by decide⟩
theorem i_E_list : Cond.instanceMethod m_E_list.1 ∈ jw_big := jt_i2 92 rfl rfl
theorem s_E_list : Cond.selects m_E_list.1.cls m_E_list.1 m_E_list.1 ∈ jw_big := jt_i2 93 rfl rfl
theorem l_E_map : jl_m m_E_map 0 := ⟨jt_i2 105 rfl rfl, jt_i1 1 rfl rfl, ⟨by decide, by decide, by decide +kernel⟩, by decide⟩
theorem i_E_map : Cond.instanceMethod m_E_map.1 ∈ jw_big := jt_i2 103 rfl rfl
theorem s_E_map : Cond.selects m_E_map.1.cls m_E_map.1 m_E_map.1 ∈ jw_big := jt_i2 104 rfl rfl
theorem l_E_add : jl_m m_E_add 2 := ⟨jt_i2 113 rfl rfl, jt_i1 1 rfl rfl, ⟨by decide, by decide, by decide +kernel⟩, by decide⟩
theorem i_E_add : Cond.instanceMethod m_E_add.1 ∈ jw_big := jt_i2 111 rfl rfl
theorem s_E_add : Cond.selects m_E_add.1.cls m_E_add.1 m_E_add.1 ∈ jw_big := jt_i2 112 rfl rfl
theorem l_E_put : jl_m m_E_put 2 := ⟨jt_i2 155 rfl rfl, jt_i1 1 rfl rfl, ⟨by decide, by decide, by decide +kernel⟩, by decide⟩
theorem i_E_put : Cond.instanceMethod m_E_put.1 ∈ jw_big := jt_i2 153 rfl rfl
theorem s_E_put : Cond.selects m_E_put.1.cls m_E_put.1 m_E_put.1 ∈ jw_big := jt_i2 154 rfl rfl
theorem l_E_compile : jl_m m_E_compile 1 := ⟨jt_i2 174 rfl rfl, jt_i1 1 rfl rfl, ⟨by decide, by decide, by decide +kernel⟩, by decide⟩
theorem i_E_compile : Cond.instanceMethod m_E_compile.1 ∈ jw_big := jt_i2 172 rfl rfl
theorem s_E_compile : Cond.selects m_E_compile.1.cls m_E_compile.1 m_E_compile.1 ∈ jw_big := jt_i2 173 rfl rfl
theorem l_E_errorAt : jl_m m_E_errorAt 0 := ⟨jt_i1 182 rfl rfl, jt_i1 1 rfl rfl, ⟨by decide, by decide, by decide +kernel⟩, by decide⟩
theorem i_E_errorAt : Cond.instanceMethod m_E_errorAt.1 ∈ jw_big := jt_i1 180 rfl rfl
theorem s_E_errorAt : Cond.selects m_E_errorAt.1.cls m_E_errorAt.1 m_E_errorAt.1 ∈ jw_big := jt_i1 181 rfl rfl
theorem l_E_render : jl_m m_E_render 2 := ⟨jt_i4 68 rfl rfl, jt_i1 1 rfl rfl, ⟨by decide, by decide, by decide +kernel⟩, by decide⟩
theorem i_E_render : Cond.instanceMethod m_E_render.1 ∈ jw_big := jt_i4 66 rfl rfl
theorem s_E_render : Cond.selects m_E_render.1.cls m_E_render.1 m_E_render.1 ∈ jw_big := jt_i4 67 rfl rfl
theorem l_E_at : jl_m m_E_at 1 := ⟨jt_i4 218 rfl rfl, jt_i1 1 rfl rfl, ⟨by decide, by decide, by decide +kernel⟩, by decide⟩
theorem i_E_at : Cond.instanceMethod m_E_at.1 ∈ jw_big := jt_i4 216 rfl rfl
theorem s_E_at : Cond.selects m_E_at.1.cls m_E_at.1 m_E_at.1 ∈ jw_big := jt_i4 217 rfl rfl
theorem l_E_kind : jl_m m_E_kind 1 := ⟨jt_i4 226 rfl rfl, jt_i1 1 rfl rfl, ⟨by decide, by decide, by decide +kernel⟩, by decide⟩
theorem i_E_kind : Cond.instanceMethod m_E_kind.1 ∈ jw_big := jt_i4 224 rfl rfl
theorem s_E_kind : Cond.selects m_E_kind.1.cls m_E_kind.1 m_E_kind.1 ∈ jw_big := jt_i4 225 rfl rfl
theorem l_E_size : jl_m m_E_size 1 := ⟨jt_i4 233 rfl rfl, jt_i1 1 rfl rfl, ⟨by decide, by decide, by decide +kernel⟩, by decide⟩
theorem i_E_size : Cond.instanceMethod m_E_size.1 ∈ jw_big := jt_i4 231 rfl rfl
theorem s_E_size : Cond.selects m_E_size.1.cls m_E_size.1 m_E_size.1 ∈ jw_big := jt_i4 232 rfl rfl
theorem l_E_count : jl_m m_E_count 1 := ⟨jt_i1 186 rfl rfl, jt_i1 1 rfl rfl, ⟨by decide, by decide, by decide +kernel⟩, by decide⟩
theorem i_E_count : Cond.instanceMethod m_E_count.1 ∈ jw_big := jt_i1 184 rfl rfl
theorem s_E_count : Cond.selects m_E_count.1.cls m_E_count.1 m_E_count.1 ∈ jw_big := jt_i1 185 rfl rfl
theorem l_E_isData : jl_m m_E_isData 1 := ⟨jt_i2 117 rfl rfl, jt_i1 1 rfl rfl, ⟨by decide, by decide, by decide +kernel⟩, by decide⟩
theorem i_E_isData : Cond.instanceMethod m_E_isData.1 ∈ jw_big := jt_i2 116 rfl rfl
theorem s_E_isData : Cond.selects m_E_isData.1.cls m_E_isData.1 m_E_isData.1 ∈ jw_big := jt_se (q := (⟨"TemplateEngine", "isData", "(I)Z"⟩, 8)) (List.mem_of_getElem? (i := 6) rfl)
theorem l_E_keep : jl_m m_E_keep 1 := ⟨jt_i2 65 rfl rfl, jt_i1 1 rfl rfl, ⟨by decide, by decide, by decide +kernel⟩, by decide⟩
theorem i_E_keep : Cond.instanceMethod m_E_keep.1 ∈ jw_big := jt_i2 64 rfl rfl
theorem s_E_keep : Cond.selects m_E_keep.1.cls m_E_keep.1 m_E_keep.1 ∈ jw_big := jt_se (q := (⟨"TemplateEngine", "keep", "(LTemplateEngine$Value;)I"⟩, 8)) (List.mem_of_getElem? (i := 3) rfl)
theorem l_E_templatesThere : jl_m m_E_templatesThere 0 := ⟨jt_i1 190 rfl rfl, jt_i1 1 rfl rfl, ⟨by decide, by decide, by decide +kernel⟩, by decide⟩
theorem i_E_templatesThere : Cond.instanceMethod m_E_templatesThere.1 ∈ jw_big := jt_i1 189 rfl rfl
theorem s_E_templatesThere : Cond.selects m_E_templatesThere.1.cls m_E_templatesThere.1 m_E_templatesThere.1 ∈ jw_big := jt_se (q := (⟨"TemplateEngine", "templatesThere", "()I"⟩, 8)) (List.mem_of_getElem? (i := 0) rfl)
theorem l_E_wouldHoldItself : jl_m m_E_wouldHoldItself 2 := ⟨jt_i2 137 rfl rfl, jt_i1 1 rfl rfl, ⟨by decide, by decide, by decide +kernel⟩, by decide⟩
theorem i_E_wouldHoldItself : Cond.instanceMethod m_E_wouldHoldItself.1 ∈ jw_big := jt_i2 136 rfl rfl
theorem s_E_wouldHoldItself : Cond.selects m_E_wouldHoldItself.1.cls m_E_wouldHoldItself.1 m_E_wouldHoldItself.1 ∈ jw_big := jt_se (q := (⟨"TemplateEngine", "wouldHoldItself", "(LTemplateEngine$Value;LTemplateEngine$Value;)Z"⟩, 8)) (List.mem_of_getElem? (i := 7) rfl)
theorem l_E_isWithin : jl_m m_E_isWithin 3 := ⟨jt_i2 141 rfl rfl, jt_i1 1 rfl rfl, ⟨by decide, by decide, by decide +kernel⟩, by decide⟩
theorem i_E_isWithin : Cond.instanceMethod m_E_isWithin.1 ∈ jw_big := jt_i2 140 rfl rfl
theorem s_E_isWithin : Cond.selects m_E_isWithin.1.cls m_E_isWithin.1 m_E_isWithin.1 ∈ jw_big := jt_se (q := (⟨"TemplateEngine", "isWithin", "(LTemplateEngine$Value;LTemplateEngine$Value;I)Z"⟩, 8)) (List.mem_of_getElem? (i := 8) rfl)
theorem l_M_init : jl_m m_M_init 0 := ⟨jt_i4 239 rfl rfl, jt_i1 5 rfl rfl, ⟨by decide, by decide, by decide +kernel⟩, by decide⟩
theorem i_M_init : Cond.instanceMethod m_M_init.1 ∈ jw_big := jt_i4 238 rfl rfl
theorem l_M_thrown : jl_m m_M_thrown 0 := ⟨jt_i5 151 rfl rfl, jt_i1 5 rfl rfl, ⟨by decide, by decide, by decide +kernel⟩, by decide⟩
theorem i_M_thrown : Cond.instanceMethod m_M_thrown.1 ∈ jw_big := jt_i5 149 rfl rfl
theorem s_M_thrown : Cond.selects m_M_thrown.1.cls m_M_thrown.1 m_M_thrown.1 ∈ jw_big := jt_i5 150 rfl rfl
theorem l_M_refuse : jl_m m_M_refuse 1 := ⟨jt_i5 159 rfl rfl, jt_i1 5 rfl rfl, ⟨by decide, by decide, by decide +kernel⟩, by decide⟩
theorem i_M_refuse : Cond.instanceMethod m_M_refuse.1 ∈ jw_big := jt_i5 158 rfl rfl
theorem s_M_refuse : Cond.selects m_M_refuse.1.cls m_M_refuse.1 m_M_refuse.1 ∈ jw_big := jt_se (q := (⟨"TemplateEngineModel", "refuse", "(I)I"⟩, 48)) (List.mem_of_getElem? (i := 55) rfl)
theorem l_M_fine : jl_m m_M_fine 1 := ⟨jt_i5 163 rfl rfl, jt_i1 5 rfl rfl, ⟨by decide, by decide, by decide +kernel⟩, by decide⟩
theorem i_M_fine : Cond.instanceMethod m_M_fine.1 ∈ jw_big := jt_i5 162 rfl rfl
theorem s_M_fine : Cond.selects m_M_fine.1.cls m_M_fine.1 m_M_fine.1 ∈ jw_big := jt_se (q := (⟨"TemplateEngineModel", "fine", "(I)I"⟩, 48)) (List.mem_of_getElem? (i := 56) rfl)
theorem l_M_type : jl_m m_M_type 1 := ⟨jt_i5 155 rfl rfl, jt_i1 5 rfl rfl, ⟨by decide, by decide, by decide +kernel⟩, by decide⟩
theorem i_M_type : Cond.instanceMethod m_M_type.1 ∈ jw_big := jt_i5 153 rfl rfl
theorem s_M_type : Cond.selects m_M_type.1.cls m_M_type.1 m_M_type.1 ∈ jw_big := jt_i5 154 rfl rfl
theorem l_M_make : jl_m m_M_make 2 := ⟨jt_i5 171 rfl rfl, jt_i1 5 rfl rfl, ⟨by decide, by decide, by decide +kernel⟩, by decide⟩
theorem i_M_make : Cond.instanceMethod m_M_make.1 ∈ jw_big := jt_i5 170 rfl rfl
theorem s_M_make : Cond.selects m_M_make.1.cls m_M_make.1 m_M_make.1 ∈ jw_big := jt_se (q := (⟨"TemplateEngineModel", "make", "(II)I"⟩, 48)) (List.mem_of_getElem? (i := 57) rfl)
theorem l_M_number : jl_m m_M_number 1 := ⟨jt_i5 167 rfl rfl, jt_i1 5 rfl rfl, ⟨by decide, by decide, by decide +kernel⟩, by decide⟩
theorem i_M_number : Cond.instanceMethod m_M_number.1 ∈ jw_big := jt_i5 165 rfl rfl
theorem s_M_number : Cond.selects m_M_number.1.cls m_M_number.1 m_M_number.1 ∈ jw_big := jt_i5 166 rfl rfl
theorem l_M_text : jl_m m_M_text 0 := ⟨jt_i5 175 rfl rfl, jt_i1 5 rfl rfl, ⟨by decide, by decide, by decide +kernel⟩, by decide⟩
theorem i_M_text : Cond.instanceMethod m_M_text.1 ∈ jw_big := jt_i5 173 rfl rfl
theorem s_M_text : Cond.selects m_M_text.1.cls m_M_text.1 m_M_text.1 ∈ jw_big := jt_i5 174 rfl rfl
theorem l_M_list : jl_m m_M_list 0 := ⟨jt_i5 179 rfl rfl, jt_i1 5 rfl rfl, ⟨by decide, by decide, by decide +kernel⟩, by decide⟩
theorem i_M_list : Cond.instanceMethod m_M_list.1 ∈ jw_big := jt_i5 177 rfl rfl
theorem s_M_list : Cond.selects m_M_list.1.cls m_M_list.1 m_M_list.1 ∈ jw_big := jt_i5 178 rfl rfl
theorem l_M_map : jl_m m_M_map 0 := ⟨jt_i5 183 rfl rfl, jt_i1 5 rfl rfl, ⟨by decide, by decide, by decide +kernel⟩, by decide⟩
theorem i_M_map : Cond.instanceMethod m_M_map.1 ∈ jw_big := jt_i5 181 rfl rfl
theorem s_M_map : Cond.selects m_M_map.1.cls m_M_map.1 m_M_map.1 ∈ jw_big := jt_i5 182 rfl rfl
theorem l_M_no : jl_m m_M_no 1 := ⟨jt_i5 191 rfl rfl, jt_i1 5 rfl rfl, ⟨by decide, by decide, by decide +kernel⟩, by decide⟩
theorem i_M_no : Cond.instanceMethod m_M_no.1 ∈ jw_big := jt_i5 190 rfl rfl
theorem s_M_no : Cond.selects m_M_no.1.cls m_M_no.1 m_M_no.1 ∈ jw_big := jt_se (q := (⟨"TemplateEngineModel", "no", "(I)Z"⟩, 48)) (List.mem_of_getElem? (i := 58) rfl)
theorem l_M_holds : jl_m m_M_holds 2 := ⟨jt_i5 195 rfl rfl, jt_i1 5 rfl rfl, ⟨by decide, by decide, by decide +kernel⟩, by decide⟩
theorem i_M_holds : Cond.instanceMethod m_M_holds.1 ∈ jw_big := jt_i5 194 rfl rfl
theorem s_M_holds : Cond.selects m_M_holds.1.cls m_M_holds.1 m_M_holds.1 ∈ jw_big := jt_se (q := (⟨"TemplateEngineModel", "holds", "(II)Z"⟩, 48)) (List.mem_of_getElem? (i := 59) rfl)
theorem l_M_add : jl_m m_M_add 2 := ⟨jt_i5 187 rfl rfl, jt_i1 5 rfl rfl, ⟨by decide, by decide, by decide +kernel⟩, by decide⟩
theorem i_M_add : Cond.instanceMethod m_M_add.1 ∈ jw_big := jt_i5 185 rfl rfl
theorem s_M_add : Cond.selects m_M_add.1.cls m_M_add.1 m_M_add.1 ∈ jw_big := jt_i5 186 rfl rfl
theorem l_M_letter : jl_m m_M_letter 1 := ⟨jt_i5 207 rfl rfl, jt_i1 5 rfl rfl, ⟨by decide, by decide, by decide +kernel⟩, by decide⟩
theorem i_M_letter : Cond.instanceMethod m_M_letter.1 ∈ jw_big := jt_i5 206 rfl rfl
theorem s_M_letter : Cond.selects m_M_letter.1.cls m_M_letter.1 m_M_letter.1 ∈ jw_big := jt_se (q := (⟨"TemplateEngineModel", "letter", "(I)Z"⟩, 48)) (List.mem_of_getElem? (i := 61) rfl)
theorem l_M_lineName : jl_m m_M_lineName 0 := ⟨jt_i5 203 rfl rfl, jt_i1 5 rfl rfl, ⟨by decide, by decide, by decide +kernel⟩, by decide⟩
theorem i_M_lineName : Cond.instanceMethod m_M_lineName.1 ∈ jw_big := jt_i5 202 rfl rfl
theorem s_M_lineName : Cond.selects m_M_lineName.1.cls m_M_lineName.1 m_M_lineName.1 ∈ jw_big := jt_se (q := (⟨"TemplateEngineModel", "lineName", "()J"⟩, 48)) (List.mem_of_getElem? (i := 60) rfl)
theorem l_M_find : jl_m m_M_find 2 := ⟨jt_i5 213 rfl rfl, jt_i1 5 rfl rfl, ⟨by decide, by decide, by decide +kernel⟩, by decide⟩
theorem i_M_find : Cond.instanceMethod m_M_find.1 ∈ jw_big := jt_i5 212 rfl rfl
theorem s_M_find : Cond.selects m_M_find.1.cls m_M_find.1 m_M_find.1 ∈ jw_big := jt_se (q := (⟨"TemplateEngineModel", "find", "(IJ)I"⟩, 48)) (List.mem_of_getElem? (i := 62) rfl)
theorem l_M_put : jl_m m_M_put 2 := ⟨jt_i5 199 rfl rfl, jt_i1 5 rfl rfl, ⟨by decide, by decide, by decide +kernel⟩, by decide⟩
theorem i_M_put : Cond.instanceMethod m_M_put.1 ∈ jw_big := jt_i5 197 rfl rfl
theorem s_M_put : Cond.selects m_M_put.1.cls m_M_put.1 m_M_put.1 ∈ jw_big := jt_i5 198 rfl rfl
theorem l_M_at0 : jl_m m_M_at0 2 := ⟨jt_i5 235 rfl rfl, jt_i1 5 rfl rfl, ⟨by decide, by decide, by decide +kernel⟩, by decide⟩
theorem i_M_at0 : Cond.instanceMethod m_M_at0.1 ∈ jw_big := jt_i5 234 rfl rfl
theorem s_M_at0 : Cond.selects m_M_at0.1.cls m_M_at0.1 m_M_at0.1 ∈ jw_big := jt_se (q := (⟨"TemplateEngineModel", "at0", "(II)I"⟩, 48)) (List.mem_of_getElem? (i := 66) rfl)
theorem l_M_stands : jl_m m_M_stands 3 := ⟨jt_i5 230 rfl rfl, jt_i1 5 rfl rfl, ⟨by decide, by decide, by decide +kernel⟩, by decide⟩
theorem i_M_stands : Cond.instanceMethod m_M_stands.1 ∈ jw_big := jt_i5 229 rfl rfl
theorem s_M_stands : Cond.selects m_M_stands.1.cls m_M_stands.1 m_M_stands.1 ∈ jw_big := jt_se (q := (⟨"TemplateEngineModel", "stands", "(IIJ)Z"⟩, 48)) (List.mem_of_getElem? (i := 65) rfl)
theorem l_M_letters : jl_m m_M_letters 2 := ⟨jt_i6 35 rfl rfl, jt_i1 5 rfl rfl, ⟨by decide, by decide, by decide +kernel⟩, by decide⟩
theorem i_M_letters : Cond.instanceMethod m_M_letters.1 ∈ jw_big := jt_i6 34 rfl rfl
theorem s_M_letters : Cond.selects m_M_letters.1.cls m_M_letters.1 m_M_letters.1 ∈ jw_big := jt_se (q := (⟨"TemplateEngineModel", "letters", "(II)I"⟩, 48)) (List.mem_of_getElem? (i := 73) rfl)
theorem l_M_digit : jl_m m_M_digit 1 := ⟨jt_i6 24 rfl rfl, jt_i1 5 rfl rfl, ⟨by decide, by decide, by decide +kernel⟩, by decide⟩
theorem i_M_digit : Cond.instanceMethod m_M_digit.1 ∈ jw_big := jt_i6 23 rfl rfl
theorem s_M_digit : Cond.selects m_M_digit.1.cls m_M_digit.1 m_M_digit.1 ∈ jw_big := jt_se (q := (⟨"TemplateEngineModel", "digit", "(I)Z"⟩, 48)) (List.mem_of_getElem? (i := 71) rfl)
theorem l_M_pathEnd : jl_m m_M_pathEnd 2 := ⟨jt_i6 28 rfl rfl, jt_i1 5 rfl rfl, ⟨by decide, by decide, by decide +kernel⟩, by decide⟩
theorem i_M_pathEnd : Cond.instanceMethod m_M_pathEnd.1 ∈ jw_big := jt_i6 27 rfl rfl
theorem s_M_pathEnd : Cond.selects m_M_pathEnd.1.cls m_M_pathEnd.1 m_M_pathEnd.1 ∈ jw_big := jt_se (q := (⟨"TemplateEngineModel", "pathEnd", "(II)I"⟩, 48)) (List.mem_of_getElem? (i := 72) rfl)
theorem l_M_operandEnd : jl_m m_M_operandEnd 2 := ⟨jt_i6 20 rfl rfl, jt_i1 5 rfl rfl, ⟨by decide, by decide, by decide +kernel⟩, by decide⟩
theorem i_M_operandEnd : Cond.instanceMethod m_M_operandEnd.1 ∈ jw_big := jt_i6 19 rfl rfl
theorem s_M_operandEnd : Cond.selects m_M_operandEnd.1.cls m_M_operandEnd.1 m_M_operandEnd.1 ∈ jw_big := jt_se (q := (⟨"TemplateEngineModel", "operandEnd", "(II)I"⟩, 48)) (List.mem_of_getElem? (i := 70) rfl)
theorem l_M_helper : jl_m m_M_helper 2 := ⟨jt_i6 10 rfl rfl, jt_i1 5 rfl rfl, ⟨by decide, by decide, by decide +kernel⟩, by decide⟩
theorem i_M_helper : Cond.instanceMethod m_M_helper.1 ∈ jw_big := jt_i6 9 rfl rfl
theorem s_M_helper : Cond.selects m_M_helper.1.cls m_M_helper.1 m_M_helper.1 ∈ jw_big := jt_se (q := (⟨"TemplateEngineModel", "helper", "(II)I"⟩, 48)) (List.mem_of_getElem? (i := 69) rfl)
theorem l_M_nameSize : jl_m m_M_nameSize 1 := ⟨jt_i6 40 rfl rfl, jt_i1 5 rfl rfl, ⟨by decide, by decide, by decide +kernel⟩, by decide⟩
theorem i_M_nameSize : Cond.instanceMethod m_M_nameSize.1 ∈ jw_big := jt_i6 39 rfl rfl
theorem s_M_nameSize : Cond.selects m_M_nameSize.1.cls m_M_nameSize.1 m_M_nameSize.1 ∈ jw_big := jt_se (q := (⟨"TemplateEngineModel", "nameSize", "(I)I"⟩, 48)) (List.mem_of_getElem? (i := 74) rfl)
theorem l_M_isExpr : jl_m m_M_isExpr 2 := ⟨jt_i6 6 rfl rfl, jt_i1 5 rfl rfl, ⟨by decide, by decide, by decide +kernel⟩, by decide⟩
theorem i_M_isExpr : Cond.instanceMethod m_M_isExpr.1 ∈ jw_big := jt_i6 5 rfl rfl
theorem s_M_isExpr : Cond.selects m_M_isExpr.1.cls m_M_isExpr.1 m_M_isExpr.1 ∈ jw_big := jt_se (q := (⟨"TemplateEngineModel", "isExpr", "(II)Z"⟩, 48)) (List.mem_of_getElem? (i := 68) rfl)
theorem l_M_sortOf : jl_m m_M_sortOf 3 := ⟨jt_i6 2 rfl rfl, jt_i1 5 rfl rfl, ⟨by decide, by decide, by decide +kernel⟩, by decide⟩
theorem i_M_sortOf : Cond.instanceMethod m_M_sortOf.1 ∈ jw_big := jt_i6 1 rfl rfl
theorem s_M_sortOf : Cond.selects m_M_sortOf.1.cls m_M_sortOf.1 m_M_sortOf.1 ∈ jw_big := jt_se (q := (⟨"TemplateEngineModel", "sortOf", "(IIZ)I"⟩, 48)) (List.mem_of_getElem? (i := 67) rfl)
theorem l_M_takeTag : jl_m m_M_takeTag 3 := ⟨jt_i5 225 rfl rfl, jt_i1 5 rfl rfl, ⟨by decide, by decide, by decide +kernel⟩, by decide⟩
theorem i_M_takeTag : Cond.instanceMethod m_M_takeTag.1 ∈ jw_big := jt_i5 224 rfl rfl
theorem s_M_takeTag : Cond.selects m_M_takeTag.1.cls m_M_takeTag.1 m_M_takeTag.1 ∈ jw_big := jt_se (q := (⟨"TemplateEngineModel", "takeTag", "(III)I"⟩, 48)) (List.mem_of_getElem? (i := 64) rfl)
theorem l_M_fit : jl_m m_M_fit 2 := ⟨jt_i6 51 rfl rfl, jt_i1 5 rfl rfl, ⟨by decide, by decide, by decide +kernel⟩, by decide⟩
theorem i_M_fit : Cond.instanceMethod m_M_fit.1 ∈ jw_big := jt_i6 50 rfl rfl
theorem s_M_fit : Cond.selects m_M_fit.1.cls m_M_fit.1 m_M_fit.1 ∈ jw_big := jt_se (q := (⟨"TemplateEngineModel", "fit", "(II)I"⟩, 48)) (List.mem_of_getElem? (i := 75) rfl)
theorem l_M_takeApart : jl_m m_M_takeApart 0 := ⟨jt_i5 221 rfl rfl, jt_i1 5 rfl rfl, ⟨by decide, by decide, by decide +kernel⟩, by decide⟩
theorem i_M_takeApart : Cond.instanceMethod m_M_takeApart.1 ∈ jw_big := jt_i5 220 rfl rfl
theorem s_M_takeApart : Cond.selects m_M_takeApart.1.cls m_M_takeApart.1 m_M_takeApart.1 ∈ jw_big := jt_se (q := (⟨"TemplateEngineModel", "takeApart", "()I"⟩, 48)) (List.mem_of_getElem? (i := 63) rfl)
theorem l_M_moved : jl_m m_M_moved 2 := ⟨jt_i6 55 rfl rfl, jt_i1 5 rfl rfl, ⟨by decide, by decide, by decide +kernel⟩, by decide⟩
theorem i_M_moved : Cond.instanceMethod m_M_moved.1 ∈ jw_big := jt_i6 54 rfl rfl
theorem s_M_moved : Cond.selects m_M_moved.1.cls m_M_moved.1 m_M_moved.1 ∈ jw_big := jt_se (q := (⟨"TemplateEngineModel", "moved", "(II)I"⟩, 48)) (List.mem_of_getElem? (i := 76) rfl)
theorem l_M_compile : jl_m m_M_compile 1 := ⟨jt_i5 217 rfl rfl, jt_i1 5 rfl rfl, ⟨by decide, by decide, by decide +kernel⟩, by decide⟩
theorem i_M_compile : Cond.instanceMethod m_M_compile.1 ∈ jw_big := jt_i5 215 rfl rfl
theorem s_M_compile : Cond.selects m_M_compile.1.cls m_M_compile.1 m_M_compile.1 ∈ jw_big := jt_i5 216 rfl rfl
theorem l_M_errorAt : jl_m m_M_errorAt 0 := ⟨jt_i6 59 rfl rfl, jt_i1 5 rfl rfl, ⟨by decide, by decide, by decide +kernel⟩, by decide⟩
theorem i_M_errorAt : Cond.instanceMethod m_M_errorAt.1 ∈ jw_big := jt_i6 57 rfl rfl
theorem s_M_errorAt : Cond.selects m_M_errorAt.1.cls m_M_errorAt.1 m_M_errorAt.1 ∈ jw_big := jt_i6 58 rfl rfl
theorem l_M_nothing : jl_m m_M_nothing 1 := ⟨jt_i6 127 rfl rfl, jt_i1 5 rfl rfl, ⟨by decide, by decide, by decide +kernel⟩, by decide⟩
theorem i_M_nothing : Cond.instanceMethod m_M_nothing.1 ∈ jw_big := jt_i6 126 rfl rfl
theorem s_M_nothing : Cond.selects m_M_nothing.1.cls m_M_nothing.1 m_M_nothing.1 ∈ jw_big := jt_se (q := (⟨"TemplateEngineModel", "nothing", "(I)V"⟩, 48)) (List.mem_of_getElem? (i := 92) rfl)
theorem l_M_setNumber : jl_m m_M_setNumber 2 := ⟨jt_i6 115 rfl rfl, jt_i1 5 rfl rfl, ⟨by decide, by decide, by decide +kernel⟩, by decide⟩
theorem i_M_setNumber : Cond.instanceMethod m_M_setNumber.1 ∈ jw_big := jt_i6 114 rfl rfl
theorem s_M_setNumber : Cond.selects m_M_setNumber.1.cls m_M_setNumber.1 m_M_setNumber.1 ∈ jw_big := jt_se (q := (⟨"TemplateEngineModel", "setNumber", "(II)V"⟩, 48)) (List.mem_of_getElem? (i := 89) rfl)
theorem l_M_dataLetter : jl_m m_M_dataLetter 2 := ⟨jt_i6 71 rfl rfl, jt_i1 5 rfl rfl, ⟨by decide, by decide, by decide +kernel⟩, by decide⟩
theorem i_M_dataLetter : Cond.instanceMethod m_M_dataLetter.1 ∈ jw_big := jt_i6 70 rfl rfl
theorem s_M_dataLetter : Cond.selects m_M_dataLetter.1.cls m_M_dataLetter.1 m_M_dataLetter.1 ∈ jw_big := jt_se (q := (⟨"TemplateEngineModel", "dataLetter", "(II)I"⟩, 48)) (List.mem_of_getElem? (i := 78) rfl)
theorem l_M_load : jl_m m_M_load 2 := ⟨jt_i6 67 rfl rfl, jt_i1 5 rfl rfl, ⟨by decide, by decide, by decide +kernel⟩, by decide⟩
theorem i_M_load : Cond.instanceMethod m_M_load.1 ∈ jw_big := jt_i6 66 rfl rfl
theorem s_M_load : Cond.selects m_M_load.1.cls m_M_load.1 m_M_load.1 ∈ jw_big := jt_se (q := (⟨"TemplateEngineModel", "load", "(II)V"⟩, 48)) (List.mem_of_getElem? (i := 77) rfl)
theorem l_M_copy : jl_m m_M_copy 2 := ⟨jt_i6 131 rfl rfl, jt_i1 5 rfl rfl, ⟨by decide, by decide, by decide +kernel⟩, by decide⟩
theorem i_M_copy : Cond.instanceMethod m_M_copy.1 ∈ jw_big := jt_i6 130 rfl rfl
theorem s_M_copy : Cond.selects m_M_copy.1.cls m_M_copy.1 m_M_copy.1 ∈ jw_big := jt_se (q := (⟨"TemplateEngineModel", "copy", "(II)V"⟩, 48)) (List.mem_of_getElem? (i := 93) rfl)
theorem l_M_rawPut : jl_m m_M_rawPut 1 := ⟨jt_i6 155 rfl rfl, jt_i1 5 rfl rfl, ⟨by decide, by decide, by decide +kernel⟩, by decide⟩
theorem i_M_rawPut : Cond.instanceMethod m_M_rawPut.1 ∈ jw_big := jt_i6 154 rfl rfl
theorem s_M_rawPut : Cond.selects m_M_rawPut.1.cls m_M_rawPut.1 m_M_rawPut.1 ∈ jw_big := jt_se (q := (⟨"TemplateEngineModel", "rawPut", "(I)V"⟩, 48)) (List.mem_of_getElem? (i := 99) rfl)
theorem l_M_rawNumber : jl_m m_M_rawNumber 1 := ⟨jt_i6 151 rfl rfl, jt_i1 5 rfl rfl, ⟨by decide, by decide, by decide +kernel⟩, by decide⟩
theorem i_M_rawNumber : Cond.instanceMethod m_M_rawNumber.1 ∈ jw_big := jt_i6 150 rfl rfl
theorem s_M_rawNumber : Cond.selects m_M_rawNumber.1.cls m_M_rawNumber.1 m_M_rawNumber.1 ∈ jw_big := jt_se (q := (⟨"TemplateEngineModel", "rawNumber", "(I)V"⟩, 48)) (List.mem_of_getElem? (i := 98) rfl)
theorem l_M_rawMap : jl_m m_M_rawMap 0 := ⟨jt_i6 166 rfl rfl, jt_i1 5 rfl rfl, ⟨by decide, by decide, by decide +kernel⟩, by decide⟩
theorem i_M_rawMap : Cond.instanceMethod m_M_rawMap.1 ∈ jw_big := jt_i6 165 rfl rfl
theorem s_M_rawMap : Cond.selects m_M_rawMap.1.cls m_M_rawMap.1 m_M_rawMap.1 ∈ jw_big := jt_se (q := (⟨"TemplateEngineModel", "rawMap", "()V"⟩, 48)) (List.mem_of_getElem? (i := 101) rfl)
theorem l_M_rawData : jl_m m_M_rawData 1 := ⟨jt_i6 162 rfl rfl, jt_i1 5 rfl rfl, ⟨by decide, by decide, by decide +kernel⟩, by decide⟩
theorem i_M_rawData : Cond.instanceMethod m_M_rawData.1 ∈ jw_big := jt_i6 161 rfl rfl
theorem s_M_rawData : Cond.selects m_M_rawData.1.cls m_M_rawData.1 m_M_rawData.1 ∈ jw_big := jt_se (q := (⟨"TemplateEngineModel", "rawData", "(I)V"⟩, 48)) (List.mem_of_getElem? (i := 100) rfl)
theorem l_M_showRaw : jl_m m_M_showRaw 1 := ⟨jt_i6 147 rfl rfl, jt_i1 5 rfl rfl, ⟨by decide, by decide, by decide +kernel⟩, by decide⟩
theorem i_M_showRaw : Cond.instanceMethod m_M_showRaw.1 ∈ jw_big := jt_i6 146 rfl rfl
theorem s_M_showRaw : Cond.selects m_M_showRaw.1.cls m_M_showRaw.1 m_M_showRaw.1 ∈ jw_big := jt_se (q := (⟨"TemplateEngineModel", "showRaw", "(I)V"⟩, 48)) (List.mem_of_getElem? (i := 97) rfl)
theorem l_M_lengthOf : jl_m m_M_lengthOf 1 := ⟨jt_i6 170 rfl rfl, jt_i1 5 rfl rfl, ⟨by decide, by decide, by decide +kernel⟩, by decide⟩
theorem i_M_lengthOf : Cond.instanceMethod m_M_lengthOf.1 ∈ jw_big := jt_i6 169 rfl rfl
theorem s_M_lengthOf : Cond.selects m_M_lengthOf.1.cls m_M_lengthOf.1 m_M_lengthOf.1 ∈ jw_big := jt_se (q := (⟨"TemplateEngineModel", "lengthOf", "(I)I"⟩, 48)) (List.mem_of_getElem? (i := 102) rfl)
theorem l_M_isFalse : jl_m m_M_isFalse 1 := ⟨jt_i6 174 rfl rfl, jt_i1 5 rfl rfl, ⟨by decide, by decide, by decide +kernel⟩, by decide⟩
theorem i_M_isFalse : Cond.instanceMethod m_M_isFalse.1 ∈ jw_big := jt_i6 173 rfl rfl
theorem s_M_isFalse : Cond.selects m_M_isFalse.1.cls m_M_isFalse.1 m_M_isFalse.1 ∈ jw_big := jt_se (q := (⟨"TemplateEngineModel", "isFalse", "(I)Z"⟩, 48)) (List.mem_of_getElem? (i := 103) rfl)
theorem l_M_element : jl_m m_M_element 2 := ⟨jt_i6 139 rfl rfl, jt_i1 5 rfl rfl, ⟨by decide, by decide, by decide +kernel⟩, by decide⟩
theorem i_M_element : Cond.instanceMethod m_M_element.1 ∈ jw_big := jt_i6 138 rfl rfl
theorem s_M_element : Cond.selects m_M_element.1.cls m_M_element.1 m_M_element.1 ∈ jw_big := jt_se (q := (⟨"TemplateEngineModel", "element", "(II)V"⟩, 48)) (List.mem_of_getElem? (i := 95) rfl)
theorem l_M_member : jl_m m_M_member 3 := ⟨jt_i6 135 rfl rfl, jt_i1 5 rfl rfl, ⟨by decide, by decide, by decide +kernel⟩, by decide⟩
theorem i_M_member : Cond.instanceMethod m_M_member.1 ∈ jw_big := jt_i6 134 rfl rfl
theorem s_M_member : Cond.selects m_M_member.1.cls m_M_member.1 m_M_member.1 ∈ jw_big := jt_se (q := (⟨"TemplateEngineModel", "member", "(III)V"⟩, 48)) (List.mem_of_getElem? (i := 94) rfl)
theorem l_M_loop : jl_m m_M_loop 0 := ⟨jt_i6 123 rfl rfl, jt_i1 5 rfl rfl, ⟨by decide, by decide, by decide +kernel⟩, by decide⟩
theorem i_M_loop : Cond.instanceMethod m_M_loop.1 ∈ jw_big := jt_i6 122 rfl rfl
theorem s_M_loop : Cond.selects m_M_loop.1.cls m_M_loop.1 m_M_loop.1 ∈ jw_big := jt_se (q := (⟨"TemplateEngineModel", "loop", "()I"⟩, 48)) (List.mem_of_getElem? (i := 91) rfl)
theorem l_M_path : jl_m m_M_path 3 := ⟨jt_i6 119 rfl rfl, jt_i1 5 rfl rfl, ⟨by decide, by decide, by decide +kernel⟩, by decide⟩
theorem i_M_path : Cond.instanceMethod m_M_path.1 ∈ jw_big := jt_i6 118 rfl rfl
theorem s_M_path : Cond.selects m_M_path.1.cls m_M_path.1 m_M_path.1 ∈ jw_big := jt_se (q := (⟨"TemplateEngineModel", "path", "(III)V"⟩, 48)) (List.mem_of_getElem? (i := 90) rfl)
theorem l_M_operand : jl_m m_M_operand 3 := ⟨jt_i6 111 rfl rfl, jt_i1 5 rfl rfl, ⟨by decide, by decide, by decide +kernel⟩, by decide⟩
theorem i_M_operand : Cond.instanceMethod m_M_operand.1 ∈ jw_big := jt_i6 110 rfl rfl
theorem s_M_operand : Cond.selects m_M_operand.1.cls m_M_operand.1 m_M_operand.1 ∈ jw_big := jt_se (q := (⟨"TemplateEngineModel", "operand", "(III)V"⟩, 48)) (List.mem_of_getElem? (i := 88) rfl)
theorem l_M_upper : jl_m m_M_upper 0 := ⟨jt_i6 143 rfl rfl, jt_i1 5 rfl rfl, ⟨by decide, by decide, by decide +kernel⟩, by decide⟩
theorem i_M_upper : Cond.instanceMethod m_M_upper.1 ∈ jw_big := jt_i6 142 rfl rfl
theorem s_M_upper : Cond.selects m_M_upper.1.cls m_M_upper.1 m_M_upper.1 ∈ jw_big := jt_se (q := (⟨"TemplateEngineModel", "upper", "()V"⟩, 48)) (List.mem_of_getElem? (i := 96) rfl)
theorem l_M_alike : jl_m m_M_alike 0 := ⟨jt_i6 178 rfl rfl, jt_i1 5 rfl rfl, ⟨by decide, by decide, by decide +kernel⟩, by decide⟩
theorem i_M_alike : Cond.instanceMethod m_M_alike.1 ∈ jw_big := jt_i6 177 rfl rfl
theorem s_M_alike : Cond.selects m_M_alike.1.cls m_M_alike.1 m_M_alike.1 ∈ jw_big := jt_se (q := (⟨"TemplateEngineModel", "alike", "()Z"⟩, 48)) (List.mem_of_getElem? (i := 104) rfl)
theorem l_M_expr : jl_m m_M_expr 2 := ⟨jt_i6 107 rfl rfl, jt_i1 5 rfl rfl, ⟨by decide, by decide, by decide +kernel⟩, by decide⟩
theorem i_M_expr : Cond.instanceMethod m_M_expr.1 ∈ jw_big := jt_i6 106 rfl rfl
theorem s_M_expr : Cond.selects m_M_expr.1.cls m_M_expr.1 m_M_expr.1 ∈ jw_big := jt_se (q := (⟨"TemplateEngineModel", "expr", "(II)V"⟩, 48)) (List.mem_of_getElem? (i := 87) rfl)
theorem l_M_emit : jl_m m_M_emit 1 := ⟨jt_i6 87 rfl rfl, jt_i1 5 rfl rfl, ⟨by decide, by decide, by decide +kernel⟩, by decide⟩
theorem i_M_emit : Cond.instanceMethod m_M_emit.1 ∈ jw_big := jt_i6 86 rfl rfl
theorem s_M_emit : Cond.selects m_M_emit.1.cls m_M_emit.1 m_M_emit.1 ∈ jw_big := jt_se (q := (⟨"TemplateEngineModel", "emit", "(I)V"⟩, 48)) (List.mem_of_getElem? (i := 82) rfl)
theorem l_M_emitWord : jl_m m_M_emitWord 1 := ⟨jt_i6 202 rfl rfl, jt_i1 5 rfl rfl, ⟨by decide, by decide, by decide +kernel⟩, by decide⟩
theorem i_M_emitWord : Cond.instanceMethod m_M_emitWord.1 ∈ jw_big := jt_i6 201 rfl rfl
theorem s_M_emitWord : Cond.selects m_M_emitWord.1.cls m_M_emitWord.1 m_M_emitWord.1 ∈ jw_big := jt_se (q := (⟨"TemplateEngineModel", "emitWord", "(J)V"⟩, 48)) (List.mem_of_getElem? (i := 109) rfl)
theorem l_M_show : jl_m m_M_show 1 := ⟨jt_i6 194 rfl rfl, jt_i1 5 rfl rfl, ⟨by decide, by decide, by decide +kernel⟩, by decide⟩
theorem i_M_show : Cond.instanceMethod m_M_show.1 ∈ jw_big := jt_i6 193 rfl rfl
theorem s_M_show : Cond.selects m_M_show.1.cls m_M_show.1 m_M_show.1 ∈ jw_big := jt_se (q := (⟨"TemplateEngineModel", "show", "(Z)V"⟩, 48)) (List.mem_of_getElem? (i := 108) rfl)
theorem l_M_push : jl_m m_M_push 4 := ⟨jt_i6 182 rfl rfl, jt_i1 5 rfl rfl, ⟨by decide, by decide, by decide +kernel⟩, by decide⟩
theorem i_M_push : Cond.instanceMethod m_M_push.1 ∈ jw_big := jt_i6 181 rfl rfl
theorem s_M_push : Cond.selects m_M_push.1.cls m_M_push.1 m_M_push.1 ∈ jw_big := jt_se (q := (⟨"TemplateEngineModel", "push", "(IIZZ)V"⟩, 48)) (List.mem_of_getElem? (i := 105) rfl)
theorem l_M_nextTurn : jl_m m_M_nextTurn 1 := ⟨jt_i6 99 rfl rfl, jt_i1 5 rfl rfl, ⟨by decide, by decide, by decide +kernel⟩, by decide⟩
theorem i_M_nextTurn : Cond.instanceMethod m_M_nextTurn.1 ∈ jw_big := jt_i6 98 rfl rfl
theorem s_M_nextTurn : Cond.selects m_M_nextTurn.1.cls m_M_nextTurn.1 m_M_nextTurn.1 ∈ jw_big := jt_se (q := (⟨"TemplateEngineModel", "nextTurn", "(I)Z"⟩, 48)) (List.mem_of_getElem? (i := 85) rfl)
theorem l_M_block : jl_m m_M_block 1 := ⟨jt_i6 103 rfl rfl, jt_i1 5 rfl rfl, ⟨by decide, by decide, by decide +kernel⟩, by decide⟩
theorem i_M_block : Cond.instanceMethod m_M_block.1 ∈ jw_big := jt_i6 102 rfl rfl
theorem s_M_block : Cond.selects m_M_block.1.cls m_M_block.1 m_M_block.1 ∈ jw_big := jt_se (q := (⟨"TemplateEngineModel", "block", "(I)I"⟩, 48)) (List.mem_of_getElem? (i := 86) rfl)
theorem l_M_ends : jl_m m_M_ends 1 := ⟨jt_i6 95 rfl rfl, jt_i1 5 rfl rfl, ⟨by decide, by decide, by decide +kernel⟩, by decide⟩
theorem i_M_ends : Cond.instanceMethod m_M_ends.1 ∈ jw_big := jt_i6 94 rfl rfl
theorem s_M_ends : Cond.selects m_M_ends.1.cls m_M_ends.1 m_M_ends.1 ∈ jw_big := jt_se (q := (⟨"TemplateEngineModel", "ends", "(I)I"⟩, 48)) (List.mem_of_getElem? (i := 84) rfl)
theorem l_M_partial : jl_m m_M_partial 2 := ⟨jt_i6 190 rfl rfl, jt_i1 5 rfl rfl, ⟨by decide, by decide, by decide +kernel⟩, by decide⟩
theorem i_M_partial : Cond.instanceMethod m_M_partial.1 ∈ jw_big := jt_i6 189 rfl rfl
theorem s_M_partial : Cond.selects m_M_partial.1.cls m_M_partial.1 m_M_partial.1 ∈ jw_big := jt_se (q := (⟨"TemplateEngineModel", "partial", "(II)I"⟩, 48)) (List.mem_of_getElem? (i := 107) rfl)
theorem l_M_underTemplates : jl_m m_M_underTemplates 0 := ⟨jt_i6 186 rfl rfl, jt_i1 5 rfl rfl, ⟨by decide, by decide, by decide +kernel⟩, by decide⟩
theorem i_M_underTemplates : Cond.instanceMethod m_M_underTemplates.1 ∈ jw_big := jt_i6 185 rfl rfl
theorem s_M_underTemplates : Cond.selects m_M_underTemplates.1.cls m_M_underTemplates.1 m_M_underTemplates.1 ∈ jw_big := jt_se (q := (⟨"TemplateEngineModel", "underTemplates", "()I"⟩, 48)) (List.mem_of_getElem? (i := 106) rfl)
theorem l_M_here : jl_m m_M_here 1 := ⟨jt_i6 79 rfl rfl, jt_i1 5 rfl rfl, ⟨by decide, by decide, by decide +kernel⟩, by decide⟩
theorem i_M_here : Cond.instanceMethod m_M_here.1 ∈ jw_big := jt_i6 78 rfl rfl
theorem s_M_here : Cond.selects m_M_here.1.cls m_M_here.1 m_M_here.1 ∈ jw_big := jt_se (q := (⟨"TemplateEngineModel", "here", "(I)I"⟩, 48)) (List.mem_of_getElem? (i := 80) rfl)
theorem l_M_tag : jl_m m_M_tag 1 := ⟨jt_i6 91 rfl rfl, jt_i1 5 rfl rfl, ⟨by decide, by decide, by decide +kernel⟩, by decide⟩
theorem i_M_tag : Cond.instanceMethod m_M_tag.1 ∈ jw_big := jt_i6 90 rfl rfl
theorem s_M_tag : Cond.selects m_M_tag.1.cls m_M_tag.1 m_M_tag.1 ∈ jw_big := jt_se (q := (⟨"TemplateEngineModel", "tag", "(I)I"⟩, 48)) (List.mem_of_getElem? (i := 83) rfl)
theorem l_M_tagFrom : jl_m m_M_tagFrom 2 := ⟨jt_i6 83 rfl rfl, jt_i1 5 rfl rfl, ⟨by decide, by decide, by decide +kernel⟩, by decide⟩
theorem i_M_tagFrom : Cond.instanceMethod m_M_tagFrom.1 ∈ jw_big := jt_i6 82 rfl rfl
theorem s_M_tagFrom : Cond.selects m_M_tagFrom.1.cls m_M_tagFrom.1 m_M_tagFrom.1 ∈ jw_big := jt_se (q := (⟨"TemplateEngineModel", "tagFrom", "(II)I"⟩, 48)) (List.mem_of_getElem? (i := 81) rfl)
theorem l_M_go : jl_m m_M_go 1 := ⟨jt_i6 75 rfl rfl, jt_i1 5 rfl rfl, ⟨by decide, by decide, by decide +kernel⟩, by decide⟩
theorem i_M_go : Cond.instanceMethod m_M_go.1 ∈ jw_big := jt_i6 74 rfl rfl
theorem s_M_go : Cond.selects m_M_go.1.cls m_M_go.1 m_M_go.1 ∈ jw_big := jt_se (q := (⟨"TemplateEngineModel", "go", "(I)V"⟩, 48)) (List.mem_of_getElem? (i := 79) rfl)
theorem l_M_render : jl_m m_M_render 2 := ⟨jt_i6 63 rfl rfl, jt_i1 5 rfl rfl, ⟨by decide, by decide, by decide +kernel⟩, by decide⟩
theorem i_M_render : Cond.instanceMethod m_M_render.1 ∈ jw_big := jt_i6 61 rfl rfl
theorem s_M_render : Cond.selects m_M_render.1.cls m_M_render.1 m_M_render.1 ∈ jw_big := jt_i6 62 rfl rfl
theorem l_M_at : jl_m m_M_at 1 := ⟨jt_i6 206 rfl rfl, jt_i1 5 rfl rfl, ⟨by decide, by decide, by decide +kernel⟩, by decide⟩
theorem i_M_at : Cond.instanceMethod m_M_at.1 ∈ jw_big := jt_i6 204 rfl rfl
theorem s_M_at : Cond.selects m_M_at.1.cls m_M_at.1 m_M_at.1 ∈ jw_big := jt_i6 205 rfl rfl
theorem l_M_kind : jl_m m_M_kind 1 := ⟨jt_i6 210 rfl rfl, jt_i1 5 rfl rfl, ⟨by decide, by decide, by decide +kernel⟩, by decide⟩
theorem i_M_kind : Cond.instanceMethod m_M_kind.1 ∈ jw_big := jt_i6 208 rfl rfl
theorem s_M_kind : Cond.selects m_M_kind.1.cls m_M_kind.1 m_M_kind.1 ∈ jw_big := jt_i6 209 rfl rfl
theorem l_M_size : jl_m m_M_size 1 := ⟨jt_i6 214 rfl rfl, jt_i1 5 rfl rfl, ⟨by decide, by decide, by decide +kernel⟩, by decide⟩
theorem i_M_size : Cond.instanceMethod m_M_size.1 ∈ jw_big := jt_i6 212 rfl rfl
theorem s_M_size : Cond.selects m_M_size.1.cls m_M_size.1 m_M_size.1 ∈ jw_big := jt_i6 213 rfl rfl
theorem l_M_count : jl_m m_M_count 1 := ⟨jt_i6 218 rfl rfl, jt_i1 5 rfl rfl, ⟨by decide, by decide, by decide +kernel⟩, by decide⟩
theorem i_M_count : Cond.instanceMethod m_M_count.1 ∈ jw_big := jt_i6 216 rfl rfl
theorem s_M_count : Cond.selects m_M_count.1.cls m_M_count.1 m_M_count.1 ∈ jw_big := jt_i6 217 rfl rfl
theorem l_X_init : jl_m m_X_init 3 := ⟨jt_i4 29 rfl rfl, jt_i1 28 rfl rfl, ⟨by decide, by decide, by decide +kernel⟩, by decide⟩
theorem i_X_init : Cond.instanceMethod m_X_init.1 ∈ jw_big := jt_i4 28 rfl rfl
theorem l_O_init : jl_m m_O_init 1 := ⟨jt_i3 202 rfl rfl, jt_i1 24 rfl rfl, ⟨by decide, by decide, by decide +kernel⟩, by decide⟩
theorem i_O_init : Cond.instanceMethod m_O_init.1 ∈ jw_big := jt_i3 201 rfl rfl
theorem l_N_init : jl_m m_N_init 2 := ⟨jt_i2 203 rfl rfl, jt_i1 15 rfl rfl, ⟨by decide, by decide, by decide +kernel⟩, by decide⟩
theorem i_N_init : Cond.instanceMethod m_N_init.1 ∈ jw_big := jt_i2 202 rfl rfl
theorem l_R_init : jl_m m_R_init 0 := ⟨jt_i1 65 rfl rfl, jt_i1 3 rfl rfl, ⟨by decide, by decide, by decide +kernel⟩, by decide⟩
theorem i_R_init : Cond.instanceMethod m_R_init.1 ∈ jw_big := jt_i1 64 rfl rfl
theorem l_R_run : jl_m m_R_run 3 := ⟨jt_i4 73 rfl rfl, jt_i1 3 rfl rfl, ⟨by decide, by decide, by decide +kernel⟩, by decide⟩
theorem i_R_run : Cond.instanceMethod m_R_run.1 ∈ jw_big := jt_i4 72 rfl rfl
theorem s_R_run : Cond.selects m_R_run.1.cls m_R_run.1 m_R_run.1 ∈ jw_big := jt_se (q := (⟨"TemplateEngine$Renderer", "run", "([LTemplateEngine$Part;LTemplateEngine$Part;LTemplateEngine$Value;)V"⟩, 13)) (List.mem_of_getElem? (i := 34) rfl)
theorem l_R_renderParts : jl_m m_R_renderParts 2 := ⟨jt_i4 78 rfl rfl, jt_i1 3 rfl rfl, ⟨by decide, by decide, by decide +kernel⟩, by decide⟩
theorem i_R_renderParts : Cond.instanceMethod m_R_renderParts.1 ∈ jw_big := jt_i4 77 rfl rfl
theorem s_R_renderParts : Cond.selects m_R_renderParts.1.cls m_R_renderParts.1 m_R_renderParts.1 ∈ jw_big := jt_se (q := (⟨"TemplateEngine$Renderer", "renderParts", "(LTemplateEngine$Part;I)V"⟩, 13)) (List.mem_of_getElem? (i := 35) rfl)
theorem l_R_meetTag : jl_m m_R_meetTag 0 := ⟨jt_i4 88 rfl rfl, jt_i1 3 rfl rfl, ⟨by decide, by decide, by decide +kernel⟩, by decide⟩
theorem i_R_meetTag : Cond.instanceMethod m_R_meetTag.1 ∈ jw_big := jt_i4 87 rfl rfl
theorem s_R_meetTag : Cond.selects m_R_meetTag.1.cls m_R_meetTag.1 m_R_meetTag.1 ∈ jw_big := jt_se (q := (⟨"TemplateEngine$Renderer", "meetTag", "()V"⟩, 13)) (List.mem_of_getElem? (i := 37) rfl)
theorem l_R_renderPartial : jl_m m_R_renderPartial 2 := ⟨jt_i4 181 rfl rfl, jt_i1 3 rfl rfl, ⟨by decide, by decide, by decide +kernel⟩, by decide⟩
theorem i_R_renderPartial : Cond.instanceMethod m_R_renderPartial.1 ∈ jw_big := jt_i4 180 rfl rfl
theorem s_R_renderPartial : Cond.selects m_R_renderPartial.1.cls m_R_renderPartial.1 m_R_renderPartial.1 ∈ jw_big := jt_se (q := (⟨"TemplateEngine$Renderer", "renderPartial", "(II)V"⟩, 13)) (List.mem_of_getElem? (i := 52) rfl)
theorem l_R_renderBlock : jl_m m_R_renderBlock 2 := ⟨jt_i4 204 rfl rfl, jt_i1 3 rfl rfl, ⟨by decide, by decide, by decide +kernel⟩, by decide⟩
theorem i_R_renderBlock : Cond.instanceMethod m_R_renderBlock.1 ∈ jw_big := jt_i4 203 rfl rfl
theorem s_R_renderBlock : Cond.selects m_R_renderBlock.1.cls m_R_renderBlock.1 m_R_renderBlock.1 ∈ jw_big := jt_se (q := (⟨"TemplateEngine$Renderer", "renderBlock", "(LTemplateEngine$Part;I)V"⟩, 13)) (List.mem_of_getElem? (i := 53) rfl)
theorem l_R_renderEach : jl_m m_R_renderEach 3 := ⟨jt_i4 211 rfl rfl, jt_i1 3 rfl rfl, ⟨by decide, by decide, by decide +kernel⟩, by decide⟩
theorem i_R_renderEach : Cond.instanceMethod m_R_renderEach.1 ∈ jw_big := jt_i4 210 rfl rfl
theorem s_R_renderEach : Cond.selects m_R_renderEach.1.cls m_R_renderEach.1 m_R_renderEach.1 ∈ jw_big := jt_se (q := (⟨"TemplateEngine$Renderer", "renderEach", "(LTemplateEngine$Part;LTemplateEngine$Value;I)V"⟩, 13)) (List.mem_of_getElem? (i := 54) rfl)
theorem l_R_evaluate : jl_m m_R_evaluate 2 := ⟨jt_i4 95 rfl rfl, jt_i1 3 rfl rfl, ⟨by decide, by decide, by decide +kernel⟩, by decide⟩
theorem i_R_evaluate : Cond.instanceMethod m_R_evaluate.1 ∈ jw_big := jt_i4 94 rfl rfl
theorem s_R_evaluate : Cond.selects m_R_evaluate.1.cls m_R_evaluate.1 m_R_evaluate.1 ∈ jw_big := jt_se (q := (⟨"TemplateEngine$Renderer", "evaluate", "(LTemplateEngine$Expression;LTemplateEngine$Value;)LTemplateEngine$Value;"⟩, 13)) (List.mem_of_getElem? (i := 38) rfl)
theorem l_R_valueOf : jl_m m_R_valueOf 2 := ⟨jt_i4 99 rfl rfl, jt_i1 3 rfl rfl, ⟨by decide, by decide, by decide +kernel⟩, by decide⟩
theorem i_R_valueOf : Cond.instanceMethod m_R_valueOf.1 ∈ jw_big := jt_i4 98 rfl rfl
theorem s_R_valueOf : Cond.selects m_R_valueOf.1.cls m_R_valueOf.1 m_R_valueOf.1 ∈ jw_big := jt_se (q := (⟨"TemplateEngine$Renderer", "valueOf", "(LTemplateEngine$Operand;LTemplateEngine$Value;)LTemplateEngine$Value;"⟩, 13)) (List.mem_of_getElem? (i := 39) rfl)
theorem l_R_follow : jl_m m_R_follow 1 := ⟨jt_i4 112 rfl rfl, jt_i1 3 rfl rfl, ⟨by decide, by decide, by decide +kernel⟩, by decide⟩
theorem i_R_follow : Cond.instanceMethod m_R_follow.1 ∈ jw_big := jt_i4 111 rfl rfl
theorem s_R_follow : Cond.selects m_R_follow.1.cls m_R_follow.1 m_R_follow.1 ∈ jw_big := jt_se (q := (⟨"TemplateEngine$Renderer", "follow", "(LTemplateEngine$Operand;)LTemplateEngine$Value;"⟩, 13)) (List.mem_of_getElem? (i := 41) rfl)
theorem l_R_showEscaped : jl_m m_R_showEscaped 1 := ⟨jt_i4 168 rfl rfl, jt_i1 3 rfl rfl, ⟨by decide, by decide, by decide +kernel⟩, by decide⟩
theorem i_R_showEscaped : Cond.instanceMethod m_R_showEscaped.1 ∈ jw_big := jt_i4 167 rfl rfl
theorem s_R_showEscaped : Cond.selects m_R_showEscaped.1.cls m_R_showEscaped.1 m_R_showEscaped.1 ∈ jw_big := jt_se (q := (⟨"TemplateEngine$Renderer", "showEscaped", "(LTemplateEngine$Value;)V"⟩, 13)) (List.mem_of_getElem? (i := 50) rfl)
theorem l_R_showRaw : jl_m m_R_showRaw 3 := ⟨jt_i4 129 rfl rfl, jt_i1 3 rfl rfl, ⟨by decide, by decide, by decide +kernel⟩, by decide⟩
theorem i_R_showRaw : Cond.static m_R_showRaw.1 ∈ jw_big := jt_i4 128 rfl rfl
theorem l_R_isFalse : jl_m m_R_isFalse 1 := ⟨jt_i4 153 rfl rfl, jt_i1 3 rfl rfl, ⟨by decide, by decide, by decide +kernel⟩, by decide⟩
theorem i_R_isFalse : Cond.static m_R_isFalse.1 ∈ jw_big := jt_i4 152 rfl rfl
theorem l_R_isNumber : jl_m m_R_isNumber 1 := ⟨jt_i4 160 rfl rfl, jt_i1 3 rfl rfl, ⟨by decide, by decide, by decide +kernel⟩, by decide⟩
theorem i_R_isNumber : Cond.static m_R_isNumber.1 ∈ jw_big := jt_i4 159 rfl rfl
theorem l_P_init : jl_m m_P_init 1 := ⟨jt_i2 195 rfl rfl, jt_i1 14 rfl rfl, ⟨by decide, by decide, by decide +kernel⟩, by decide⟩
theorem i_P_init : Cond.instanceMethod m_P_init.1 ∈ jw_big := jt_i2 194 rfl rfl
theorem l_P_takeApart : jl_m m_P_takeApart 0 := ⟨jt_i3 39 rfl rfl, jt_i1 14 rfl rfl, ⟨by decide, by decide, by decide +kernel⟩, by decide⟩
theorem i_P_takeApart : Cond.instanceMethod m_P_takeApart.1 ∈ jw_big := jt_i3 38 rfl rfl
theorem s_P_takeApart : Cond.selects m_P_takeApart.1.cls m_P_takeApart.1 m_P_takeApart.1 ∈ jw_big := jt_se (q := (⟨"TemplateEngine$TemplateReader", "takeApart", "()V"⟩, 10)) (List.mem_of_getElem? (i := 12) rfl)
theorem l_P_attachPlain : jl_m m_P_attachPlain 2 := ⟨jt_i3 100 rfl rfl, jt_i1 14 rfl rfl, ⟨by decide, by decide, by decide +kernel⟩, by decide⟩
theorem i_P_attachPlain : Cond.instanceMethod m_P_attachPlain.1 ∈ jw_big := jt_i3 99 rfl rfl
theorem s_P_attachPlain : Cond.selects m_P_attachPlain.1.cls m_P_attachPlain.1 m_P_attachPlain.1 ∈ jw_big := jt_se (q := (⟨"TemplateEngine$TemplateReader", "attachPlain", "(II)V"⟩, 10)) (List.mem_of_getElem? (i := 15) rfl)
theorem l_P_attach : jl_m m_P_attach 1 := ⟨jt_i3 107 rfl rfl, jt_i1 14 rfl rfl, ⟨by decide, by decide, by decide +kernel⟩, by decide⟩
theorem i_P_attach : Cond.instanceMethod m_P_attach.1 ∈ jw_big := jt_i3 106 rfl rfl
theorem s_P_attach : Cond.selects m_P_attach.1.cls m_P_attach.1 m_P_attach.1 ∈ jw_big := jt_se (q := (⟨"TemplateEngine$TemplateReader", "attach", "(LTemplateEngine$Part;)V"⟩, 10)) (List.mem_of_getElem? (i := 16) rfl)
theorem l_P_takeIn : jl_m m_P_takeIn 1 := ⟨jt_i4 47 rfl rfl, jt_i1 14 rfl rfl, ⟨by decide, by decide, by decide +kernel⟩, by decide⟩
theorem i_P_takeIn : Cond.instanceMethod m_P_takeIn.1 ∈ jw_big := jt_i4 46 rfl rfl
theorem s_P_takeIn : Cond.selects m_P_takeIn.1.cls m_P_takeIn.1 m_P_takeIn.1 ∈ jw_big := jt_se (q := (⟨"TemplateEngine$TemplateReader", "takeIn", "(LTemplateEngine$Part;)Z"⟩, 10)) (List.mem_of_getElem? (i := 30) rfl)
theorem l_P_beginBlock : jl_m m_P_beginBlock 1 := ⟨jt_i4 51 rfl rfl, jt_i1 14 rfl rfl, ⟨by decide, by decide, by decide +kernel⟩, by decide⟩
theorem i_P_beginBlock : Cond.instanceMethod m_P_beginBlock.1 ∈ jw_big := jt_i4 50 rfl rfl
theorem s_P_beginBlock : Cond.selects m_P_beginBlock.1.cls m_P_beginBlock.1 m_P_beginBlock.1 ∈ jw_big := jt_se (q := (⟨"TemplateEngine$TemplateReader", "beginBlock", "(LTemplateEngine$Part;)Z"⟩, 10)) (List.mem_of_getElem? (i := 31) rfl)
theorem l_P_beginOther : jl_m m_P_beginOther 0 := ⟨jt_i4 55 rfl rfl, jt_i1 14 rfl rfl, ⟨by decide, by decide, by decide +kernel⟩, by decide⟩
theorem i_P_beginOther : Cond.instanceMethod m_P_beginOther.1 ∈ jw_big := jt_i4 54 rfl rfl
theorem s_P_beginOther : Cond.selects m_P_beginOther.1.cls m_P_beginOther.1 m_P_beginOther.1 ∈ jw_big := jt_se (q := (⟨"TemplateEngine$TemplateReader", "beginOther", "()Z"⟩, 10)) (List.mem_of_getElem? (i := 32) rfl)
theorem l_P_endBlock : jl_m m_P_endBlock 1 := ⟨jt_i4 59 rfl rfl, jt_i1 14 rfl rfl, ⟨by decide, by decide, by decide +kernel⟩, by decide⟩
theorem i_P_endBlock : Cond.instanceMethod m_P_endBlock.1 ∈ jw_big := jt_i4 58 rfl rfl
theorem s_P_endBlock : Cond.selects m_P_endBlock.1.cls m_P_endBlock.1 m_P_endBlock.1 ∈ jw_big := jt_se (q := (⟨"TemplateEngine$TemplateReader", "endBlock", "(LTemplateEngine$Sort;)Z"⟩, 10)) (List.mem_of_getElem? (i := 33) rfl)
theorem l_P_readSort : jl_m m_P_readSort 1 := ⟨jt_i3 116 rfl rfl, jt_i1 14 rfl rfl, ⟨by decide, by decide, by decide +kernel⟩, by decide⟩
theorem i_P_readSort : Cond.instanceMethod m_P_readSort.1 ∈ jw_big := jt_i3 115 rfl rfl
theorem s_P_readSort : Cond.selects m_P_readSort.1.cls m_P_readSort.1 m_P_readSort.1 ∈ jw_big := jt_se (q := (⟨"TemplateEngine$TemplateReader", "readSort", "(Z)LTemplateEngine$Sort;"⟩, 10)) (List.mem_of_getElem? (i := 17) rfl)
theorem l_P_readRest : jl_m m_P_readRest 2 := ⟨jt_i3 159 rfl rfl, jt_i1 14 rfl rfl, ⟨by decide, by decide, by decide +kernel⟩, by decide⟩
theorem i_P_readRest : Cond.instanceMethod m_P_readRest.1 ∈ jw_big := jt_i3 158 rfl rfl
theorem s_P_readRest : Cond.selects m_P_readRest.1.cls m_P_readRest.1 m_P_readRest.1 ∈ jw_big := jt_se (q := (⟨"TemplateEngine$TemplateReader", "readRest", "(LTemplateEngine$Sort;I)LTemplateEngine$Part;"⟩, 10)) (List.mem_of_getElem? (i := 20) rfl)
theorem l_P_readExpression : jl_m m_P_readExpression 0 := ⟨jt_i3 171 rfl rfl, jt_i1 14 rfl rfl, ⟨by decide, by decide, by decide +kernel⟩, by decide⟩
theorem i_P_readExpression : Cond.instanceMethod m_P_readExpression.1 ∈ jw_big := jt_i3 170 rfl rfl
theorem s_P_readExpression : Cond.selects m_P_readExpression.1.cls m_P_readExpression.1 m_P_readExpression.1 ∈ jw_big := jt_se (q := (⟨"TemplateEngine$TemplateReader", "readExpression", "()LTemplateEngine$Expression;"⟩, 10)) (List.mem_of_getElem? (i := 21) rfl)
theorem l_P_readHelper : jl_m m_P_readHelper 0 := ⟨jt_i3 175 rfl rfl, jt_i1 14 rfl rfl, ⟨by decide, by decide, by decide +kernel⟩, by decide⟩
theorem i_P_readHelper : Cond.instanceMethod m_P_readHelper.1 ∈ jw_big := jt_i3 174 rfl rfl
theorem s_P_readHelper : Cond.selects m_P_readHelper.1.cls m_P_readHelper.1 m_P_readHelper.1 ∈ jw_big := jt_se (q := (⟨"TemplateEngine$TemplateReader", "readHelper", "()LTemplateEngine$Helper;"⟩, 10)) (List.mem_of_getElem? (i := 22) rfl)
theorem l_P_readOperand : jl_m m_P_readOperand 0 := ⟨jt_i3 183 rfl rfl, jt_i1 14 rfl rfl, ⟨by decide, by decide, by decide +kernel⟩, by decide⟩
theorem i_P_readOperand : Cond.instanceMethod m_P_readOperand.1 ∈ jw_big := jt_i3 182 rfl rfl
theorem s_P_readOperand : Cond.selects m_P_readOperand.1.cls m_P_readOperand.1 m_P_readOperand.1 ∈ jw_big := jt_se (q := (⟨"TemplateEngine$TemplateReader", "readOperand", "()LTemplateEngine$Operand;"⟩, 10)) (List.mem_of_getElem? (i := 23) rfl)
theorem l_P_readNumber : jl_m m_P_readNumber 0 := ⟨jt_i3 191 rfl rfl, jt_i1 14 rfl rfl, ⟨by decide, by decide, by decide +kernel⟩, by decide⟩
theorem i_P_readNumber : Cond.instanceMethod m_P_readNumber.1 ∈ jw_big := jt_i3 190 rfl rfl
theorem s_P_readNumber : Cond.selects m_P_readNumber.1.cls m_P_readNumber.1 m_P_readNumber.1 ∈ jw_big := jt_se (q := (⟨"TemplateEngine$TemplateReader", "readNumber", "()LTemplateEngine$Operand;"⟩, 10)) (List.mem_of_getElem? (i := 25) rfl)
theorem l_P_readQuoted : jl_m m_P_readQuoted 0 := ⟨jt_i3 226 rfl rfl, jt_i1 14 rfl rfl, ⟨by decide, by decide, by decide +kernel⟩, by decide⟩
theorem i_P_readQuoted : Cond.instanceMethod m_P_readQuoted.1 ∈ jw_big := jt_i3 225 rfl rfl
theorem s_P_readQuoted : Cond.selects m_P_readQuoted.1.cls m_P_readQuoted.1 m_P_readQuoted.1 ∈ jw_big := jt_se (q := (⟨"TemplateEngine$TemplateReader", "readQuoted", "()LTemplateEngine$Operand;"⟩, 10)) (List.mem_of_getElem? (i := 27) rfl)
theorem l_P_readPath : jl_m m_P_readPath 0 := ⟨jt_i3 237 rfl rfl, jt_i1 14 rfl rfl, ⟨by decide, by decide, by decide +kernel⟩, by decide⟩
theorem i_P_readPath : Cond.instanceMethod m_P_readPath.1 ∈ jw_big := jt_i3 236 rfl rfl
theorem s_P_readPath : Cond.selects m_P_readPath.1.cls m_P_readPath.1 m_P_readPath.1 ∈ jw_big := jt_se (q := (⟨"TemplateEngine$TemplateReader", "readPath", "()LTemplateEngine$Operand;"⟩, 10)) (List.mem_of_getElem? (i := 28) rfl)
theorem l_P_readName : jl_m m_P_readName 0 := ⟨jt_i4 4 rfl rfl, jt_i1 14 rfl rfl, ⟨by decide, by decide, by decide +kernel⟩, by decide⟩
theorem i_P_readName : Cond.instanceMethod m_P_readName.1 ∈ jw_big := jt_i4 3 rfl rfl
theorem s_P_readName : Cond.selects m_P_readName.1.cls m_P_readName.1 m_P_readName.1 ∈ jw_big := jt_se (q := (⟨"TemplateEngine$TemplateReader", "readName", "()J"⟩, 10)) (List.mem_of_getElem? (i := 29) rfl)
theorem l_P_isDigitNext : jl_m m_P_isDigitNext 0 := ⟨jt_i3 187 rfl rfl, jt_i1 14 rfl rfl, ⟨by decide, by decide, by decide +kernel⟩, by decide⟩
theorem i_P_isDigitNext : Cond.instanceMethod m_P_isDigitNext.1 ∈ jw_big := jt_i3 186 rfl rfl
theorem s_P_isDigitNext : Cond.selects m_P_isDigitNext.1.cls m_P_isDigitNext.1 m_P_isDigitNext.1 ∈ jw_big := jt_se (q := (⟨"TemplateEngine$TemplateReader", "isDigitNext", "()Z"⟩, 10)) (List.mem_of_getElem? (i := 24) rfl)
theorem l_P_readDigit : jl_m m_P_readDigit 0 := ⟨jt_i3 195 rfl rfl, jt_i1 14 rfl rfl, ⟨by decide, by decide, by decide +kernel⟩, by decide⟩
theorem i_P_readDigit : Cond.instanceMethod m_P_readDigit.1 ∈ jw_big := jt_i3 194 rfl rfl
theorem s_P_readDigit : Cond.selects m_P_readDigit.1.cls m_P_readDigit.1 m_P_readDigit.1 ∈ jw_big := jt_se (q := (⟨"TemplateEngine$TemplateReader", "readDigit", "()I"⟩, 10)) (List.mem_of_getElem? (i := 26) rfl)
theorem l_P_accept : jl_m m_P_accept 1 := ⟨jt_i3 123 rfl rfl, jt_i1 14 rfl rfl, ⟨by decide, by decide, by decide +kernel⟩, by decide⟩
theorem i_P_accept : Cond.instanceMethod m_P_accept.1 ∈ jw_big := jt_i3 122 rfl rfl
theorem s_P_accept : Cond.selects m_P_accept.1.cls m_P_accept.1 m_P_accept.1 ∈ jw_big := jt_se (q := (⟨"TemplateEngine$TemplateReader", "accept", "(Ljava/lang/String;)Z"⟩, 10)) (List.mem_of_getElem? (i := 18) rfl)
theorem l_P_isInside : jl_m m_P_isInside 1 := ⟨jt_i3 142 rfl rfl, jt_i1 14 rfl rfl, ⟨by decide, by decide, by decide +kernel⟩, by decide⟩
theorem i_P_isInside : Cond.instanceMethod m_P_isInside.1 ∈ jw_big := jt_i3 141 rfl rfl
theorem s_P_isInside : Cond.selects m_P_isInside.1.cls m_P_isInside.1 m_P_isInside.1 ∈ jw_big := jt_se (q := (⟨"TemplateEngine$TemplateReader", "isInside", "(Ljava/lang/String;)Z"⟩, 10)) (List.mem_of_getElem? (i := 19) rfl)
theorem l_T_init : jl_m m_T_init 1 := ⟨jt_i1 42 rfl rfl, jt_i1 2 rfl rfl, ⟨by decide, by decide, by decide +kernel⟩, by decide⟩
theorem i_T_init : Cond.instanceMethod m_T_init.1 ∈ jw_big := jt_i1 41 rfl rfl
theorem l_T_clear : jl_m m_T_clear 0 := ⟨jt_i2 87 rfl rfl, jt_i1 2 rfl rfl, ⟨by decide, by decide, by decide +kernel⟩, by decide⟩
theorem i_T_clear : Cond.instanceMethod m_T_clear.1 ∈ jw_big := jt_i2 86 rfl rfl
theorem s_T_clear : Cond.selects m_T_clear.1.cls m_T_clear.1 m_T_clear.1 ∈ jw_big := jt_se (q := (⟨"TemplateEngine$Text", "clear", "()V"⟩, 2)) (List.mem_of_getElem? (i := 5) rfl)
theorem l_T_append : jl_m m_T_append 1 := ⟨jt_i2 49 rfl rfl, jt_i1 2 rfl rfl, ⟨by decide, by decide, by decide +kernel⟩, by decide⟩
theorem i_T_append : Cond.instanceMethod m_T_append.1 ∈ jw_big := jt_i2 48 rfl rfl
theorem s_T_append : Cond.selects m_T_append.1.cls m_T_append.1 m_T_append.1 ∈ jw_big := jt_se (q := (⟨"TemplateEngine$Text", "append", "(C)V"⟩, 2)) (List.mem_of_getElem? (i := 2) rfl)
theorem l_T_appendWord : jl_m m_T_appendWord 1 := ⟨jt_i4 142 rfl rfl, jt_i1 2 rfl rfl, ⟨by decide, by decide, by decide +kernel⟩, by decide⟩
theorem i_T_appendWord : Cond.instanceMethod m_T_appendWord.1 ∈ jw_big := jt_i4 141 rfl rfl
theorem s_T_appendWord : Cond.selects m_T_appendWord.1.cls m_T_appendWord.1 m_T_appendWord.1 ∈ jw_big := jt_se (q := (⟨"TemplateEngine$Text", "appendWord", "(Ljava/lang/String;)V"⟩, 2)) (List.mem_of_getElem? (i := 45) rfl)
theorem l_T_appendText : jl_m m_T_appendText 1 := ⟨jt_i4 84 rfl rfl, jt_i1 2 rfl rfl, ⟨by decide, by decide, by decide +kernel⟩, by decide⟩
theorem i_T_appendText : Cond.instanceMethod m_T_appendText.1 ∈ jw_big := jt_i4 83 rfl rfl
theorem s_T_appendText : Cond.selects m_T_appendText.1.cls m_T_appendText.1 m_T_appendText.1 ∈ jw_big := jt_se (q := (⟨"TemplateEngine$Text", "appendText", "(LTemplateEngine$Text;)V"⟩, 2)) (List.mem_of_getElem? (i := 36) rfl)
theorem l_T_appendEscaped : jl_m m_T_appendEscaped 1 := ⟨jt_i4 172 rfl rfl, jt_i1 2 rfl rfl, ⟨by decide, by decide, by decide +kernel⟩, by decide⟩
theorem i_T_appendEscaped : Cond.instanceMethod m_T_appendEscaped.1 ∈ jw_big := jt_i4 171 rfl rfl
theorem s_T_appendEscaped : Cond.selects m_T_appendEscaped.1.cls m_T_appendEscaped.1 m_T_appendEscaped.1 ∈ jw_big := jt_se (q := (⟨"TemplateEngine$Text", "appendEscaped", "(LTemplateEngine$Text;)V"⟩, 2)) (List.mem_of_getElem? (i := 51) rfl)
theorem l_T_appendNumber : jl_m m_T_appendNumber 1 := ⟨jt_i4 133 rfl rfl, jt_i1 2 rfl rfl, ⟨by decide, by decide, by decide +kernel⟩, by decide⟩
theorem i_T_appendNumber : Cond.instanceMethod m_T_appendNumber.1 ∈ jw_big := jt_i4 132 rfl rfl
theorem s_T_appendNumber : Cond.selects m_T_appendNumber.1.cls m_T_appendNumber.1 m_T_appendNumber.1 ∈ jw_big := jt_se (q := (⟨"TemplateEngine$Text", "appendNumber", "(I)V"⟩, 2)) (List.mem_of_getElem? (i := 44) rfl)
theorem l_T_raiseLetters : jl_m m_T_raiseLetters 0 := ⟨jt_i4 146 rfl rfl, jt_i1 2 rfl rfl, ⟨by decide, by decide, by decide +kernel⟩, by decide⟩
theorem i_T_raiseLetters : Cond.instanceMethod m_T_raiseLetters.1 ∈ jw_big := jt_i4 145 rfl rfl
theorem s_T_raiseLetters : Cond.selects m_T_raiseLetters.1.cls m_T_raiseLetters.1 m_T_raiseLetters.1 ∈ jw_big := jt_se (q := (⟨"TemplateEngine$Text", "raiseLetters", "()V"⟩, 2)) (List.mem_of_getElem? (i := 46) rfl)
theorem l_T_copyOf : jl_m m_T_copyOf 2 := ⟨jt_i2 76 rfl rfl, jt_i1 2 rfl rfl, ⟨by decide, by decide, by decide +kernel⟩, by decide⟩
theorem i_T_copyOf : Cond.instanceMethod m_T_copyOf.1 ∈ jw_big := jt_i2 75 rfl rfl
theorem s_T_copyOf : Cond.selects m_T_copyOf.1.cls m_T_copyOf.1 m_T_copyOf.1 ∈ jw_big := jt_se (q := (⟨"TemplateEngine$Text", "copyOf", "(II)LTemplateEngine$Text;"⟩, 2)) (List.mem_of_getElem? (i := 4) rfl)
theorem l_T_isLike : jl_m m_T_isLike 1 := ⟨jt_i4 164 rfl rfl, jt_i1 2 rfl rfl, ⟨by decide, by decide, by decide +kernel⟩, by decide⟩
theorem i_T_isLike : Cond.instanceMethod m_T_isLike.1 ∈ jw_big := jt_i4 163 rfl rfl
theorem s_T_isLike : Cond.selects m_T_isLike.1.cls m_T_isLike.1 m_T_isLike.1 ∈ jw_big := jt_se (q := (⟨"TemplateEngine$Text", "isLike", "(LTemplateEngine$Text;)Z"⟩, 2)) (List.mem_of_getElem? (i := 49) rfl)
theorem l_T_hasWord : jl_m m_T_hasWord 3 := ⟨jt_i3 48 rfl rfl, jt_i1 2 rfl rfl, ⟨by decide, by decide, by decide +kernel⟩, by decide⟩
theorem i_T_hasWord : Cond.instanceMethod m_T_hasWord.1 ∈ jw_big := jt_i3 47 rfl rfl
theorem s_T_hasWord : Cond.selects m_T_hasWord.1.cls m_T_hasWord.1 m_T_hasWord.1 ∈ jw_big := jt_se (q := (⟨"TemplateEngine$Text", "hasWord", "(Ljava/lang/String;II)Z"⟩, 2)) (List.mem_of_getElem? (i := 14) rfl)
theorem l_T_find : jl_m m_T_find 2 := ⟨jt_i3 44 rfl rfl, jt_i1 2 rfl rfl, ⟨by decide, by decide, by decide +kernel⟩, by decide⟩
theorem i_T_find : Cond.instanceMethod m_T_find.1 ∈ jw_big := jt_i3 43 rfl rfl
theorem s_T_find : Cond.selects m_T_find.1.cls m_T_find.1 m_T_find.1 ∈ jw_big := jt_se (q := (⟨"TemplateEngine$Text", "find", "(Ljava/lang/String;I)I"⟩, 2)) (List.mem_of_getElem? (i := 13) rfl)
theorem l_T_nameCode : jl_m m_T_nameCode 2 := ⟨jt_i2 159 rfl rfl, jt_i1 2 rfl rfl, ⟨by decide, by decide, by decide +kernel⟩, by decide⟩
theorem i_T_nameCode : Cond.instanceMethod m_T_nameCode.1 ∈ jw_big := jt_i2 158 rfl rfl
theorem s_T_nameCode : Cond.selects m_T_nameCode.1.cls m_T_nameCode.1 m_T_nameCode.1 ∈ jw_big := jt_se (q := (⟨"TemplateEngine$Text", "nameCode", "(II)J"⟩, 2)) (List.mem_of_getElem? (i := 10) rfl)
theorem l_V_init : jl_m m_V_init 0 := ⟨jt_i1 75 rfl rfl, jt_i1 4 rfl rfl, ⟨by decide, by decide, by decide +kernel⟩, by decide⟩
theorem i_V_init : Cond.instanceMethod m_V_init.1 ∈ jw_big := jt_i1 74 rfl rfl
theorem l_V_ofNumber : jl_m m_V_ofNumber 1 := ⟨jt_i1 70 rfl rfl, jt_i1 4 rfl rfl, ⟨by decide, by decide, by decide +kernel⟩, by decide⟩
theorem i_V_ofNumber : Cond.static m_V_ofNumber.1 ∈ jw_big := jt_i1 69 rfl rfl
theorem l_V_ofText : jl_m m_V_ofText 1 := ⟨jt_i1 111 rfl rfl, jt_i1 4 rfl rfl, ⟨by decide, by decide, by decide +kernel⟩, by decide⟩
theorem i_V_ofText : Cond.static m_V_ofText.1 ∈ jw_big := jt_i1 110 rfl rfl
theorem l_V_ofEntries : jl_m m_V_ofEntries 1 := ⟨jt_i2 97 rfl rfl, jt_i1 4 rfl rfl, ⟨by decide, by decide, by decide +kernel⟩, by decide⟩
theorem i_V_ofEntries : Cond.static m_V_ofEntries.1 ∈ jw_big := jt_i2 96 rfl rfl
theorem l_V_becomeNumber : jl_m m_V_becomeNumber 1 := ⟨jt_i4 108 rfl rfl, jt_i1 4 rfl rfl, ⟨by decide, by decide, by decide +kernel⟩, by decide⟩
theorem i_V_becomeNumber : Cond.instanceMethod m_V_becomeNumber.1 ∈ jw_big := jt_i4 107 rfl rfl
theorem s_V_becomeNumber : Cond.selects m_V_becomeNumber.1.cls m_V_becomeNumber.1 m_V_becomeNumber.1 ∈ jw_big := jt_se (q := (⟨"TemplateEngine$Value", "becomeNumber", "(I)LTemplateEngine$Value;"⟩, 7)) (List.mem_of_getElem? (i := 40) rfl)
theorem l_V_setEntry : jl_m m_V_setEntry 3 := ⟨jt_i2 147 rfl rfl, jt_i1 4 rfl rfl, ⟨by decide, by decide, by decide +kernel⟩, by decide⟩
theorem i_V_setEntry : Cond.instanceMethod m_V_setEntry.1 ∈ jw_big := jt_i2 146 rfl rfl
theorem s_V_setEntry : Cond.selects m_V_setEntry.1.cls m_V_setEntry.1 m_V_setEntry.1 ∈ jw_big := jt_se (q := (⟨"TemplateEngine$Value", "setEntry", "(IJLTemplateEngine$Value;)V"⟩, 7)) (List.mem_of_getElem? (i := 9) rfl)
theorem l_V_placeOf : jl_m m_V_placeOf 1 := ⟨jt_i2 165 rfl rfl, jt_i1 4 rfl rfl, ⟨by decide, by decide, by decide +kernel⟩, by decide⟩
theorem i_V_placeOf : Cond.instanceMethod m_V_placeOf.1 ∈ jw_big := jt_i2 164 rfl rfl
theorem s_V_placeOf : Cond.selects m_V_placeOf.1.cls m_V_placeOf.1 m_V_placeOf.1 ∈ jw_big := jt_se (q := (⟨"TemplateEngine$Value", "placeOf", "(J)I"⟩, 7)) (List.mem_of_getElem? (i := 11) rfl)
theorem l_V_entryNamed : jl_m m_V_entryNamed 1 := ⟨jt_i4 121 rfl rfl, jt_i1 4 rfl rfl, ⟨by decide, by decide, by decide +kernel⟩, by decide⟩
theorem i_V_entryNamed : Cond.instanceMethod m_V_entryNamed.1 ∈ jw_big := jt_i4 120 rfl rfl
theorem s_V_entryNamed : Cond.selects m_V_entryNamed.1.cls m_V_entryNamed.1 m_V_entryNamed.1 ∈ jw_big := jt_se (q := (⟨"TemplateEngine$Value", "entryNamed", "(J)LTemplateEngine$Value;"⟩, 7)) (List.mem_of_getElem? (i := 43) rfl)
theorem l_V_elementAt : jl_m m_V_elementAt 1 := ⟨jt_i4 117 rfl rfl, jt_i1 4 rfl rfl, ⟨by decide, by decide, by decide +kernel⟩, by decide⟩
theorem i_V_elementAt : Cond.instanceMethod m_V_elementAt.1 ∈ jw_big := jt_i4 116 rfl rfl
theorem s_V_elementAt : Cond.selects m_V_elementAt.1.cls m_V_elementAt.1 m_V_elementAt.1 ∈ jw_big := jt_se (q := (⟨"TemplateEngine$Value", "elementAt", "(I)LTemplateEngine$Value;"⟩, 7)) (List.mem_of_getElem? (i := 42) rfl)
theorem l_V_isFalse : jl_m m_V_isFalse 0 := ⟨jt_i4 157 rfl rfl, jt_i1 4 rfl rfl, ⟨by decide, by decide, by decide +kernel⟩, by decide⟩
theorem i_V_isFalse : Cond.instanceMethod m_V_isFalse.1 ∈ jw_big := jt_i4 156 rfl rfl
theorem s_V_isFalse : Cond.selects m_V_isFalse.1.cls m_V_isFalse.1 m_V_isFalse.1 ∈ jw_big := jt_se (q := (⟨"TemplateEngine$Value", "isFalse", "()Z"⟩, 7)) (List.mem_of_getElem? (i := 48) rfl)
theorem l_V_measure : jl_m m_V_measure 0 := ⟨jt_i4 150 rfl rfl, jt_i1 4 rfl rfl, ⟨by decide, by decide, by decide +kernel⟩, by decide⟩
theorem i_V_measure : Cond.instanceMethod m_V_measure.1 ∈ jw_big := jt_i4 149 rfl rfl
theorem s_V_measure : Cond.selects m_V_measure.1.cls m_V_measure.1 m_V_measure.1 ∈ jw_big := jt_se (q := (⟨"TemplateEngine$Value", "measure", "()I"⟩, 7)) (List.mem_of_getElem? (i := 47) rfl)
theorem i_L_type : Cond.static m_L_type.1 ∈ jw_big := jt_i1 192 rfl rfl
theorem i_L_number : Cond.static m_L_number.1 ∈ jw_big := jt_i2 54 rfl rfl
theorem i_L_text : Cond.static m_L_text.1 ∈ jw_big := jt_i2 67 rfl rfl
theorem i_L_list : Cond.static m_L_list.1 ∈ jw_big := jt_i2 89 rfl rfl
theorem i_L_map : Cond.static m_L_map.1 ∈ jw_big := jt_i2 100 rfl rfl
theorem i_L_add : Cond.static m_L_add.1 ∈ jw_big := jt_i2 107 rfl rfl
theorem i_L_put : Cond.static m_L_put.1 ∈ jw_big := jt_i2 150 rfl rfl
theorem i_L_compile : Cond.static m_L_compile.1 ∈ jw_big := jt_i2 168 rfl rfl
theorem i_L_render : Cond.static m_L_render.1 ∈ jw_big := jt_i4 62 rfl rfl
theorem i_L_at : Cond.static m_L_at.1 ∈ jw_big := jt_i4 213 rfl rfl
theorem i_L_kind : Cond.static m_L_kind.1 ∈ jw_big := jt_i4 221 rfl rfl
theorem i_L_size : Cond.static m_L_size.1 ∈ jw_big := jt_i4 228 rfl rfl
theorem f_T_9 : jl_f "TemplateEngine$Text" 9 1 0 := ⟨jc_o1, by decide, Or.inl (jt_i1 44 rfl rfl)⟩
theorem w_T_9 : Cond.fieldLink "TemplateEngine$Text" 9 ((jc_q 1).2.1 0).1 ((jc_q 1).2.1 0).2.1 ((jc_q 1).2.1 0).2.2.1 ∈ jw_big := jt_i1 44 rfl rfl
theorem f_P_210 : jl_f "TemplateEngine$TemplateReader" 210 1 0 := ⟨jc_o1, by decide, Or.inr ⟨"TemplateEngine", jt_n1 0 rfl⟩⟩
theorem f_E_163 : jl_f "TemplateEngine" 163 1 0 := ⟨jc_o1, by decide, Or.inr ⟨"TemplateEngine", jt_n1 1 rfl⟩⟩
theorem f_T_15 : jl_f "TemplateEngine$Text" 15 1 1 := ⟨jc_o1, by decide, Or.inl (jt_i1 47 rfl rfl)⟩
theorem f_P_42 : jl_f "TemplateEngine$TemplateReader" 42 1 1 := ⟨jc_o1, by decide, Or.inr ⟨"TemplateEngine", jt_n1 2 rfl⟩⟩
theorem f_E_51 : jl_f "TemplateEngine" 51 1 1 := ⟨jc_o1, by decide, Or.inr ⟨"TemplateEngine", jt_n1 3 rfl⟩⟩
theorem f_V_40 : jl_f "TemplateEngine$Value" 40 1 1 := ⟨jc_o1, by decide, Or.inr ⟨"TemplateEngine", jt_n1 4 rfl⟩⟩
theorem f_V_12 : jl_f "TemplateEngine$Value" 12 2 0 := ⟨jc_o2, by decide, Or.inl (jt_i1 77 rfl rfl)⟩
theorem f_E_99 : jl_f "TemplateEngine" 99 2 0 := ⟨jc_o2, by decide, Or.inr ⟨"TemplateEngine", jt_n1 5 rfl⟩⟩
theorem f_R_210 : jl_f "TemplateEngine$Renderer" 210 2 0 := ⟨jc_o2, by decide, Or.inr ⟨"TemplateEngine", jt_n1 6 rfl⟩⟩
theorem f_V_16 : jl_f "TemplateEngine$Value" 16 2 1 := ⟨jc_o2, by decide, Or.inl (jt_i1 80 rfl rfl)⟩
theorem f_R_222 : jl_f "TemplateEngine$Renderer" 222 2 1 := ⟨jc_o2, by decide, Or.inr ⟨"TemplateEngine", jt_n1 7 rfl⟩⟩
theorem f_V_19 : jl_f "TemplateEngine$Value" 19 2 2 := ⟨jc_o2, by decide, Or.inl (jt_i1 82 rfl rfl)⟩
theorem f_R_204 : jl_f "TemplateEngine$Renderer" 204 2 2 := ⟨jc_o2, by decide, Or.inr ⟨"TemplateEngine", jt_n1 8 rfl⟩⟩
theorem f_V_23 : jl_f "TemplateEngine$Value" 23 2 3 := ⟨jc_o2, by decide, Or.inl (jt_i1 84 rfl rfl)⟩
theorem f_R_178 : jl_f "TemplateEngine$Renderer" 178 2 3 := ⟨jc_o2, by decide, Or.inr ⟨"TemplateEngine", jt_n1 9 rfl⟩⟩
theorem f_E_187 : jl_f "TemplateEngine" 187 2 3 := ⟨jc_o2, by decide, Or.inr ⟨"TemplateEngine", jt_n1 10 rfl⟩⟩
theorem f_V_27 : jl_f "TemplateEngine$Value" 27 2 4 := ⟨jc_o2, by decide, Or.inl (jt_i1 87 rfl rfl)⟩
theorem f_V_31 : jl_f "TemplateEngine$Value" 31 2 5 := ⟨jc_o2, by decide, Or.inl (jt_i1 88 rfl rfl)⟩
theorem f_R_171 : jl_f "TemplateEngine$Renderer" 171 2 5 := ⟨jc_o2, by decide, Or.inr ⟨"TemplateEngine", jt_n1 11 rfl⟩⟩
theorem f_E_108 : jl_f "TemplateEngine" 108 2 5 := ⟨jc_o2, by decide, Or.inr ⟨"TemplateEngine", jt_n1 12 rfl⟩⟩
theorem f_E_184 : jl_f "TemplateEngine" 184 2 6 := ⟨jc_o2, by decide, Or.inr ⟨"TemplateEngine", jt_n1 13 rfl⟩⟩
theorem f_R_11 : jl_f "TemplateEngine$Renderer" 11 3 0 := ⟨jc_o3, by decide, Or.inl (jt_i1 112 rfl rfl)⟩
theorem w_R_11 : Cond.fieldLink "TemplateEngine$Renderer" 11 ((jc_q 3).2.1 0).1 ((jc_q 3).2.1 0).2.1 ((jc_q 3).2.1 0).2.2.1 ∈ jw_big := jt_i1 112 rfl rfl
theorem f_R_57 : jl_f "TemplateEngine$Renderer" 57 3 1 := ⟨jc_o3, by decide, Or.inl (jt_i1 113 rfl rfl)⟩
theorem f_R_17 : jl_f "TemplateEngine$Renderer" 17 3 2 := ⟨jc_o3, by decide, Or.inl (jt_i1 114 rfl rfl)⟩
theorem w_R_17 : Cond.fieldLink "TemplateEngine$Renderer" 17 ((jc_q 3).2.1 2).1 ((jc_q 3).2.1 2).2.1 ((jc_q 3).2.1 2).2.2.1 ∈ jw_big := jt_i1 114 rfl rfl
theorem f_R_24 : jl_f "TemplateEngine$Renderer" 24 3 3 := ⟨jc_o3, by decide, Or.inl (jt_i1 115 rfl rfl)⟩
theorem w_R_24 : Cond.fieldLink "TemplateEngine$Renderer" 24 ((jc_q 3).2.1 3).1 ((jc_q 3).2.1 3).2.1 ((jc_q 3).2.1 3).2.2.1 ∈ jw_big := jt_i1 115 rfl rfl
theorem f_R_33 : jl_f "TemplateEngine$Renderer" 33 3 4 := ⟨jc_o3, by decide, Or.inl (jt_i1 116 rfl rfl)⟩
theorem w_R_33 : Cond.fieldLink "TemplateEngine$Renderer" 33 ((jc_q 3).2.1 4).1 ((jc_q 3).2.1 4).2.1 ((jc_q 3).2.1 4).2.2.1 ∈ jw_big := jt_i1 116 rfl rfl
theorem f_R_37 : jl_f "TemplateEngine$Renderer" 37 3 5 := ⟨jc_o3, by decide, Or.inl (jt_i1 117 rfl rfl)⟩
theorem w_R_37 : Cond.fieldLink "TemplateEngine$Renderer" 37 ((jc_q 3).2.1 5).1 ((jc_q 3).2.1 5).2.1 ((jc_q 3).2.1 5).2.2.1 ∈ jw_big := jt_i1 117 rfl rfl
theorem f_R_40 : jl_f "TemplateEngine$Renderer" 40 3 6 := ⟨jc_o3, by decide, Or.inl (jt_i1 118 rfl rfl)⟩
theorem f_R_43 : jl_f "TemplateEngine$Renderer" 43 3 7 := ⟨jc_o3, by decide, Or.inl (jt_i1 119 rfl rfl)⟩
theorem f_E_158 : jl_f "TemplateEngine" 158 3 7 := ⟨jc_o3, by decide, Or.inr ⟨"TemplateEngine", jt_n1 14 rfl⟩⟩
theorem f_R_50 : jl_f "TemplateEngine$Renderer" 50 3 8 := ⟨jc_o3, by decide, Or.inl (jt_i1 121 rfl rfl)⟩
theorem f_R_61 : jl_f "TemplateEngine$Renderer" 61 3 9 := ⟨jc_o3, by decide, Or.inl (jt_i1 122 rfl rfl)⟩
theorem f_R_64 : jl_f "TemplateEngine$Renderer" 64 3 10 := ⟨jc_o3, by decide, Or.inl (jt_i1 123 rfl rfl)⟩
theorem f_R_67 : jl_f "TemplateEngine$Renderer" 67 3 11 := ⟨jc_o3, by decide, Or.inl (jt_i1 124 rfl rfl)⟩
theorem f_R_80 : jl_f "TemplateEngine$Renderer" 80 3 12 := ⟨jc_o3, by decide, Or.inl (jt_i1 125 rfl rfl)⟩
theorem f_E_174 : jl_f "TemplateEngine" 174 3 12 := ⟨jc_o3, by decide, Or.inr ⟨"TemplateEngine", jt_n1 15 rfl⟩⟩
theorem f_E_14 : jl_f "TemplateEngine" 14 0 0 := ⟨jc_o0, by decide, Or.inl (jt_i1 154 rfl rfl)⟩
theorem w_E_14 : Cond.fieldLink "TemplateEngine" 14 ((jc_q 0).2.1 0).1 ((jc_q 0).2.1 0).2.1 ((jc_q 0).2.1 0).2.2.1 ∈ jw_big := jt_i1 154 rfl rfl
theorem f_E_20 : jl_f "TemplateEngine" 20 0 1 := ⟨jc_o0, by decide, Or.inl (jt_i1 155 rfl rfl)⟩
theorem w_E_20 : Cond.fieldLink "TemplateEngine" 20 ((jc_q 0).2.1 1).1 ((jc_q 0).2.1 1).2.1 ((jc_q 0).2.1 1).2.2.1 ∈ jw_big := jt_i1 155 rfl rfl
theorem f_E_63 : jl_f "TemplateEngine" 63 0 2 := ⟨jc_o0, by decide, Or.inl (jt_i1 156 rfl rfl)⟩
theorem f_E_177 : jl_f "TemplateEngine" 177 0 3 := ⟨jc_o0, by decide, Or.inl (jt_i1 157 rfl rfl)⟩
theorem f_E_26 : jl_f "TemplateEngine" 26 0 4 := ⟨jc_o0, by decide, Or.inl (jt_i1 158 rfl rfl)⟩
theorem w_E_26 : Cond.fieldLink "TemplateEngine" 26 ((jc_q 0).2.1 4).1 ((jc_q 0).2.1 4).2.1 ((jc_q 0).2.1 4).2.2.1 ∈ jw_big := jt_i1 158 rfl rfl
theorem f_E_30 : jl_f "TemplateEngine" 30 0 5 := ⟨jc_o0, by decide, Or.inl (jt_i1 159 rfl rfl)⟩
theorem f_E_37 : jl_f "TemplateEngine" 37 0 6 := ⟨jc_o0, by decide, Or.inl (jt_i1 160 rfl rfl)⟩
theorem w_E_37 : Cond.fieldLink "TemplateEngine" 37 ((jc_q 0).2.1 6).1 ((jc_q 0).2.1 6).2.1 ((jc_q 0).2.1 6).2.2.1 ∈ jw_big := jt_i1 160 rfl rfl
theorem f_E_41 : jl_f "TemplateEngine" 41 0 7 := ⟨jc_o0, by decide, Or.inl (jt_i1 161 rfl rfl)⟩
theorem f_N_7 : jl_f "TemplateEngine$Part" 7 5 0 := ⟨jc_o5, by decide, Or.inl (jt_i2 205 rfl rfl)⟩
theorem w_N_7 : Cond.fieldLink "TemplateEngine$Part" 7 ((jc_q 5).2.1 0).1 ((jc_q 5).2.1 0).2.1 ((jc_q 5).2.1 0).2.2.1 ∈ jw_big := jt_i2 205 rfl rfl
theorem f_R_89 : jl_f "TemplateEngine$Renderer" 89 5 0 := ⟨jc_o5, by decide, Or.inr ⟨"TemplateEngine", jt_n1 16 rfl⟩⟩
theorem f_P_135 : jl_f "TemplateEngine$TemplateReader" 135 5 0 := ⟨jc_o5, by decide, Or.inr ⟨"TemplateEngine", jt_n1 17 rfl⟩⟩
theorem f_N_13 : jl_f "TemplateEngine$Part" 13 5 1 := ⟨jc_o5, by decide, Or.inl (jt_i2 208 rfl rfl)⟩
theorem w_N_13 : Cond.fieldLink "TemplateEngine$Part" 13 ((jc_q 5).2.1 1).1 ((jc_q 5).2.1 1).2.1 ((jc_q 5).2.1 1).2.2.1 ∈ jw_big := jt_i2 208 rfl rfl
theorem f_P_96 : jl_f "TemplateEngine$TemplateReader" 96 5 1 := ⟨jc_o5, by decide, Or.inr ⟨"TemplateEngine", jt_n1 18 rfl⟩⟩
theorem f_P_106 : jl_f "TemplateEngine$TemplateReader" 106 5 2 := ⟨jc_o5, by decide, Or.inr ⟨"TemplateEngine", jt_n1 19 rfl⟩⟩
theorem f_R_99 : jl_f "TemplateEngine$Renderer" 99 5 2 := ⟨jc_o5, by decide, Or.inr ⟨"TemplateEngine", jt_n1 20 rfl⟩⟩
theorem f_R_109 : jl_f "TemplateEngine$Renderer" 109 5 3 := ⟨jc_o5, by decide, Or.inr ⟨"TemplateEngine", jt_n1 21 rfl⟩⟩
theorem f_P_221 : jl_f "TemplateEngine$TemplateReader" 221 5 3 := ⟨jc_o5, by decide, Or.inr ⟨"TemplateEngine", jt_n1 22 rfl⟩⟩
theorem f_R_125 : jl_f "TemplateEngine$Renderer" 125 5 4 := ⟨jc_o5, by decide, Or.inr ⟨"TemplateEngine", jt_n1 23 rfl⟩⟩
theorem f_P_214 : jl_f "TemplateEngine$TemplateReader" 214 5 4 := ⟨jc_o5, by decide, Or.inr ⟨"TemplateEngine", jt_n1 24 rfl⟩⟩
theorem f_R_135 : jl_f "TemplateEngine$Renderer" 135 5 5 := ⟨jc_o5, by decide, Or.inr ⟨"TemplateEngine", jt_n1 25 rfl⟩⟩
theorem f_P_116 : jl_f "TemplateEngine$TemplateReader" 116 5 5 := ⟨jc_o5, by decide, Or.inr ⟨"TemplateEngine", jt_n1 26 rfl⟩⟩
theorem f_R_70 : jl_f "TemplateEngine$Renderer" 70 5 6 := ⟨jc_o5, by decide, Or.inr ⟨"TemplateEngine", jt_n1 27 rfl⟩⟩
theorem f_P_126 : jl_f "TemplateEngine$TemplateReader" 126 5 6 := ⟨jc_o5, by decide, Or.inr ⟨"TemplateEngine", jt_n1 28 rfl⟩⟩
theorem f_P_123 : jl_f "TemplateEngine$TemplateReader" 123 5 7 := ⟨jc_o5, by decide, Or.inr ⟨"TemplateEngine", jt_n1 29 rfl⟩⟩
theorem f_R_162 : jl_f "TemplateEngine$Renderer" 162 5 7 := ⟨jc_o5, by decide, Or.inr ⟨"TemplateEngine", jt_n1 30 rfl⟩⟩
theorem f_P_119 : jl_f "TemplateEngine$TemplateReader" 119 5 8 := ⟨jc_o5, by decide, Or.inr ⟨"TemplateEngine", jt_n1 31 rfl⟩⟩
theorem f_P_38 : jl_f "TemplateEngine$TemplateReader" 38 4 0 := ⟨jc_o4, by decide, Or.inl (jt_i3 2 rfl rfl)⟩
theorem w_P_38 : Cond.fieldLink "TemplateEngine$TemplateReader" 38 ((jc_q 4).2.1 0).1 ((jc_q 4).2.1 0).2.1 ((jc_q 4).2.1 0).2.2.1 ∈ jw_big := jt_i3 2 rfl rfl
theorem f_P_20 : jl_f "TemplateEngine$TemplateReader" 20 4 1 := ⟨jc_o4, by decide, Or.inl (jt_i3 3 rfl rfl)⟩
theorem w_P_20 : Cond.fieldLink "TemplateEngine$TemplateReader" 20 ((jc_q 4).2.1 1).1 ((jc_q 4).2.1 1).2.1 ((jc_q 4).2.1 1).2.2.1 ∈ jw_big := jt_i3 3 rfl rfl
theorem f_E_145 : jl_f "TemplateEngine" 145 4 1 := ⟨jc_o4, by decide, Or.inr ⟨"TemplateEngine", jt_n1 32 rfl⟩⟩
theorem f_P_26 : jl_f "TemplateEngine$TemplateReader" 26 4 2 := ⟨jc_o4, by decide, Or.inl (jt_i3 5 rfl rfl)⟩
theorem w_P_26 : Cond.fieldLink "TemplateEngine$TemplateReader" 26 ((jc_q 4).2.1 2).1 ((jc_q 4).2.1 2).2.1 ((jc_q 4).2.1 2).2.2.1 ∈ jw_big := jt_i3 5 rfl rfl
theorem f_P_93 : jl_f "TemplateEngine$TemplateReader" 93 4 3 := ⟨jc_o4, by decide, Or.inl (jt_i3 6 rfl rfl)⟩
theorem f_P_113 : jl_f "TemplateEngine$TemplateReader" 113 4 4 := ⟨jc_o4, by decide, Or.inl (jt_i3 7 rfl rfl)⟩
theorem f_P_90 : jl_f "TemplateEngine$TemplateReader" 90 4 5 := ⟨jc_o4, by decide, Or.inl (jt_i3 8 rfl rfl)⟩
theorem f_E_149 : jl_f "TemplateEngine" 149 4 5 := ⟨jc_o4, by decide, Or.inr ⟨"TemplateEngine", jt_n1 33 rfl⟩⟩
theorem f_P_30 : jl_f "TemplateEngine$TemplateReader" 30 4 6 := ⟨jc_o4, by decide, Or.inl (jt_i3 10 rfl rfl)⟩
theorem f_E_142 : jl_f "TemplateEngine" 142 4 6 := ⟨jc_o4, by decide, Or.inr ⟨"TemplateEngine", jt_n1 34 rfl⟩⟩
theorem f_P_72 : jl_f "TemplateEngine$TemplateReader" 72 4 7 := ⟨jc_o4, by decide, Or.inl (jt_i3 12 rfl rfl)⟩
theorem f_P_75 : jl_f "TemplateEngine$TemplateReader" 75 4 8 := ⟨jc_o4, by decide, Or.inl (jt_i3 13 rfl rfl)⟩
theorem f_P_34 : jl_f "TemplateEngine$TemplateReader" 34 4 9 := ⟨jc_o4, by decide, Or.inl (jt_i3 14 rfl rfl)⟩
theorem w_P_34 : Cond.fieldLink "TemplateEngine$TemplateReader" 34 ((jc_q 4).2.1 9).1 ((jc_q 4).2.1 9).2.1 ((jc_q 4).2.1 9).2.2.1 ∈ jw_big := jt_i3 14 rfl rfl
theorem f_O_7 : jl_f "TemplateEngine$Operand" 7 7 0 := ⟨jc_o7, by decide, Or.inl (jt_i3 204 rfl rfl)⟩
theorem w_O_7 : Cond.fieldLink "TemplateEngine$Operand" 7 ((jc_q 7).2.1 0).1 ((jc_q 7).2.1 0).2.1 ((jc_q 7).2.1 0).2.2.1 ∈ jw_big := jt_i3 204 rfl rfl
theorem f_R_235 : jl_f "TemplateEngine$Renderer" 235 7 0 := ⟨jc_o7, by decide, Or.inr ⟨"TemplateEngine", jt_n1 35 rfl⟩⟩
theorem f_R_243 : jl_f "TemplateEngine$Renderer" 243 7 1 := ⟨jc_o7, by decide, Or.inr ⟨"TemplateEngine", jt_n1 36 rfl⟩⟩
theorem f_P_301 : jl_f "TemplateEngine$TemplateReader" 301 7 1 := ⟨jc_o7, by decide, Or.inr ⟨"TemplateEngine", jt_n1 37 rfl⟩⟩
theorem f_R_250 : jl_f "TemplateEngine$Renderer" 250 7 2 := ⟨jc_o7, by decide, Or.inr ⟨"TemplateEngine", jt_n1 38 rfl⟩⟩
theorem f_P_312 : jl_f "TemplateEngine$TemplateReader" 312 7 2 := ⟨jc_o7, by decide, Or.inr ⟨"TemplateEngine", jt_n1 39 rfl⟩⟩
theorem f_R_253 : jl_f "TemplateEngine$Renderer" 253 7 3 := ⟨jc_o7, by decide, Or.inr ⟨"TemplateEngine", jt_n1 40 rfl⟩⟩
theorem f_P_330 : jl_f "TemplateEngine$TemplateReader" 330 7 3 := ⟨jc_o7, by decide, Or.inr ⟨"TemplateEngine", jt_n1 41 rfl⟩⟩
theorem f_X_7 : jl_f "TemplateEngine$Expression" 7 6 0 := ⟨jc_o6, by decide, Or.inl (jt_i4 31 rfl rfl)⟩
theorem w_X_7 : Cond.fieldLink "TemplateEngine$Expression" 7 ((jc_q 6).2.1 0).1 ((jc_q 6).2.1 0).2.1 ((jc_q 6).2.1 0).2.2.1 ∈ jw_big := jt_i4 31 rfl rfl
theorem f_R_197 : jl_f "TemplateEngine$Renderer" 197 6 0 := ⟨jc_o6, by decide, Or.inr ⟨"TemplateEngine", jt_n1 42 rfl⟩⟩
theorem f_X_13 : jl_f "TemplateEngine$Expression" 13 6 1 := ⟨jc_o6, by decide, Or.inl (jt_i4 33 rfl rfl)⟩
theorem w_X_13 : Cond.fieldLink "TemplateEngine$Expression" 13 ((jc_q 6).2.1 1).1 ((jc_q 6).2.1 1).2.1 ((jc_q 6).2.1 1).2.2.1 ∈ jw_big := jt_i4 33 rfl rfl
theorem f_R_181 : jl_f "TemplateEngine$Renderer" 181 6 1 := ⟨jc_o6, by decide, Or.inr ⟨"TemplateEngine", jt_n1 43 rfl⟩⟩
theorem f_X_17 : jl_f "TemplateEngine$Expression" 17 6 2 := ⟨jc_o6, by decide, Or.inl (jt_i4 35 rfl rfl)⟩
theorem w_X_17 : Cond.fieldLink "TemplateEngine$Expression" 17 ((jc_q 6).2.1 2).1 ((jc_q 6).2.1 2).2.1 ((jc_q 6).2.1 2).2.2.1 ∈ jw_big := jt_i4 35 rfl rfl
theorem f_R_191 : jl_f "TemplateEngine$Renderer" 191 6 2 := ⟨jc_o6, by decide, Or.inr ⟨"TemplateEngine", jt_n1 44 rfl⟩⟩
theorem f_M_7 : jl_f "TemplateEngineModel" 7 8 0 := ⟨jc_o8, by decide, Or.inl (jt_i5 1 rfl rfl)⟩
theorem f_M_13 : jl_f "TemplateEngineModel" 13 8 1 := ⟨jc_o8, by decide, Or.inl (jt_i5 2 rfl rfl)⟩
theorem f_M_16 : jl_f "TemplateEngineModel" 16 8 2 := ⟨jc_o8, by decide, Or.inl (jt_i5 3 rfl rfl)⟩
theorem f_M_19 : jl_f "TemplateEngineModel" 19 8 3 := ⟨jc_o8, by decide, Or.inl (jt_i5 4 rfl rfl)⟩
theorem f_M_22 : jl_f "TemplateEngineModel" 22 8 4 := ⟨jc_o8, by decide, Or.inl (jt_i5 5 rfl rfl)⟩
theorem f_M_25 : jl_f "TemplateEngineModel" 25 8 5 := ⟨jc_o8, by decide, Or.inl (jt_i5 6 rfl rfl)⟩
theorem f_M_28 : jl_f "TemplateEngineModel" 28 8 6 := ⟨jc_o8, by decide, Or.inl (jt_i5 7 rfl rfl)⟩
theorem f_M_31 : jl_f "TemplateEngineModel" 31 8 7 := ⟨jc_o8, by decide, Or.inl (jt_i5 8 rfl rfl)⟩
theorem w_M_31 : Cond.fieldLink "TemplateEngineModel" 31 ((jc_q 8).2.1 7).1 ((jc_q 8).2.1 7).2.1 ((jc_q 8).2.1 7).2.2.1 ∈ jw_big := jt_i5 8 rfl rfl
theorem f_M_35 : jl_f "TemplateEngineModel" 35 8 8 := ⟨jc_o8, by decide, Or.inl (jt_i5 9 rfl rfl)⟩
theorem w_M_35 : Cond.fieldLink "TemplateEngineModel" 35 ((jc_q 8).2.1 8).1 ((jc_q 8).2.1 8).2.1 ((jc_q 8).2.1 8).2.2.1 ∈ jw_big := jt_i5 9 rfl rfl
theorem f_M_39 : jl_f "TemplateEngineModel" 39 8 9 := ⟨jc_o8, by decide, Or.inl (jt_i5 10 rfl rfl)⟩
theorem w_M_39 : Cond.fieldLink "TemplateEngineModel" 39 ((jc_q 8).2.1 9).1 ((jc_q 8).2.1 9).2.1 ((jc_q 8).2.1 9).2.2.1 ∈ jw_big := jt_i5 10 rfl rfl
theorem f_M_42 : jl_f "TemplateEngineModel" 42 8 10 := ⟨jc_o8, by decide, Or.inl (jt_i5 11 rfl rfl)⟩
theorem w_M_42 : Cond.fieldLink "TemplateEngineModel" 42 ((jc_q 8).2.1 10).1 ((jc_q 8).2.1 10).2.1 ((jc_q 8).2.1 10).2.2.1 ∈ jw_big := jt_i5 11 rfl rfl
theorem f_M_45 : jl_f "TemplateEngineModel" 45 8 11 := ⟨jc_o8, by decide, Or.inl (jt_i5 12 rfl rfl)⟩
theorem w_M_45 : Cond.fieldLink "TemplateEngineModel" 45 ((jc_q 8).2.1 11).1 ((jc_q 8).2.1 11).2.1 ((jc_q 8).2.1 11).2.2.1 ∈ jw_big := jt_i5 12 rfl rfl
theorem f_M_48 : jl_f "TemplateEngineModel" 48 8 12 := ⟨jc_o8, by decide, Or.inl (jt_i5 13 rfl rfl)⟩
theorem w_M_48 : Cond.fieldLink "TemplateEngineModel" 48 ((jc_q 8).2.1 12).1 ((jc_q 8).2.1 12).2.1 ((jc_q 8).2.1 12).2.2.1 ∈ jw_big := jt_i5 13 rfl rfl
theorem f_M_52 : jl_f "TemplateEngineModel" 52 8 13 := ⟨jc_o8, by decide, Or.inl (jt_i5 14 rfl rfl)⟩
theorem w_M_52 : Cond.fieldLink "TemplateEngineModel" 52 ((jc_q 8).2.1 13).1 ((jc_q 8).2.1 13).2.1 ((jc_q 8).2.1 13).2.2.1 ∈ jw_big := jt_i5 14 rfl rfl
theorem f_M_56 : jl_f "TemplateEngineModel" 56 8 14 := ⟨jc_o8, by decide, Or.inl (jt_i5 15 rfl rfl)⟩
theorem w_M_56 : Cond.fieldLink "TemplateEngineModel" 56 ((jc_q 8).2.1 14).1 ((jc_q 8).2.1 14).2.1 ((jc_q 8).2.1 14).2.2.1 ∈ jw_big := jt_i5 15 rfl rfl
theorem f_M_59 : jl_f "TemplateEngineModel" 59 8 15 := ⟨jc_o8, by decide, Or.inl (jt_i5 16 rfl rfl)⟩
theorem w_M_59 : Cond.fieldLink "TemplateEngineModel" 59 ((jc_q 8).2.1 15).1 ((jc_q 8).2.1 15).2.1 ((jc_q 8).2.1 15).2.2.1 ∈ jw_big := jt_i5 16 rfl rfl
theorem f_M_62 : jl_f "TemplateEngineModel" 62 8 16 := ⟨jc_o8, by decide, Or.inl (jt_i5 17 rfl rfl)⟩
theorem w_M_62 : Cond.fieldLink "TemplateEngineModel" 62 ((jc_q 8).2.1 16).1 ((jc_q 8).2.1 16).2.1 ((jc_q 8).2.1 16).2.2.1 ∈ jw_big := jt_i5 17 rfl rfl
theorem f_M_65 : jl_f "TemplateEngineModel" 65 8 17 := ⟨jc_o8, by decide, Or.inl (jt_i5 18 rfl rfl)⟩
theorem w_M_65 : Cond.fieldLink "TemplateEngineModel" 65 ((jc_q 8).2.1 17).1 ((jc_q 8).2.1 17).2.1 ((jc_q 8).2.1 17).2.2.1 ∈ jw_big := jt_i5 18 rfl rfl
theorem f_M_68 : jl_f "TemplateEngineModel" 68 8 18 := ⟨jc_o8, by decide, Or.inl (jt_i5 19 rfl rfl)⟩
theorem w_M_68 : Cond.fieldLink "TemplateEngineModel" 68 ((jc_q 8).2.1 18).1 ((jc_q 8).2.1 18).2.1 ((jc_q 8).2.1 18).2.2.1 ∈ jw_big := jt_i5 19 rfl rfl
theorem f_M_71 : jl_f "TemplateEngineModel" 71 8 19 := ⟨jc_o8, by decide, Or.inl (jt_i5 20 rfl rfl)⟩
theorem w_M_71 : Cond.fieldLink "TemplateEngineModel" 71 ((jc_q 8).2.1 19).1 ((jc_q 8).2.1 19).2.1 ((jc_q 8).2.1 19).2.2.1 ∈ jw_big := jt_i5 20 rfl rfl
theorem f_M_74 : jl_f "TemplateEngineModel" 74 8 20 := ⟨jc_o8, by decide, Or.inl (jt_i5 21 rfl rfl)⟩
theorem w_M_74 : Cond.fieldLink "TemplateEngineModel" 74 ((jc_q 8).2.1 20).1 ((jc_q 8).2.1 20).2.1 ((jc_q 8).2.1 20).2.2.1 ∈ jw_big := jt_i5 21 rfl rfl
theorem f_M_77 : jl_f "TemplateEngineModel" 77 8 21 := ⟨jc_o8, by decide, Or.inl (jt_i5 22 rfl rfl)⟩
theorem w_M_77 : Cond.fieldLink "TemplateEngineModel" 77 ((jc_q 8).2.1 21).1 ((jc_q 8).2.1 21).2.1 ((jc_q 8).2.1 21).2.2.1 ∈ jw_big := jt_i5 22 rfl rfl
theorem f_M_80 : jl_f "TemplateEngineModel" 80 8 22 := ⟨jc_o8, by decide, Or.inl (jt_i5 23 rfl rfl)⟩
theorem w_M_80 : Cond.fieldLink "TemplateEngineModel" 80 ((jc_q 8).2.1 22).1 ((jc_q 8).2.1 22).2.1 ((jc_q 8).2.1 22).2.2.1 ∈ jw_big := jt_i5 23 rfl rfl
theorem f_M_83 : jl_f "TemplateEngineModel" 83 8 23 := ⟨jc_o8, by decide, Or.inl (jt_i5 24 rfl rfl)⟩
theorem w_M_83 : Cond.fieldLink "TemplateEngineModel" 83 ((jc_q 8).2.1 23).1 ((jc_q 8).2.1 23).2.1 ((jc_q 8).2.1 23).2.2.1 ∈ jw_big := jt_i5 24 rfl rfl
theorem f_M_86 : jl_f "TemplateEngineModel" 86 8 24 := ⟨jc_o8, by decide, Or.inl (jt_i5 25 rfl rfl)⟩
theorem w_M_86 : Cond.fieldLink "TemplateEngineModel" 86 ((jc_q 8).2.1 24).1 ((jc_q 8).2.1 24).2.1 ((jc_q 8).2.1 24).2.2.1 ∈ jw_big := jt_i5 25 rfl rfl
theorem f_M_89 : jl_f "TemplateEngineModel" 89 8 25 := ⟨jc_o8, by decide, Or.inl (jt_i5 26 rfl rfl)⟩
theorem w_M_89 : Cond.fieldLink "TemplateEngineModel" 89 ((jc_q 8).2.1 25).1 ((jc_q 8).2.1 25).2.1 ((jc_q 8).2.1 25).2.2.1 ∈ jw_big := jt_i5 26 rfl rfl
theorem f_M_92 : jl_f "TemplateEngineModel" 92 8 26 := ⟨jc_o8, by decide, Or.inl (jt_i5 27 rfl rfl)⟩
theorem w_M_92 : Cond.fieldLink "TemplateEngineModel" 92 ((jc_q 8).2.1 26).1 ((jc_q 8).2.1 26).2.1 ((jc_q 8).2.1 26).2.2.1 ∈ jw_big := jt_i5 27 rfl rfl
theorem f_M_95 : jl_f "TemplateEngineModel" 95 8 27 := ⟨jc_o8, by decide, Or.inl (jt_i5 28 rfl rfl)⟩
theorem w_M_95 : Cond.fieldLink "TemplateEngineModel" 95 ((jc_q 8).2.1 27).1 ((jc_q 8).2.1 27).2.1 ((jc_q 8).2.1 27).2.2.1 ∈ jw_big := jt_i5 28 rfl rfl
theorem f_M_98 : jl_f "TemplateEngineModel" 98 8 28 := ⟨jc_o8, by decide, Or.inl (jt_i5 29 rfl rfl)⟩
theorem w_M_98 : Cond.fieldLink "TemplateEngineModel" 98 ((jc_q 8).2.1 28).1 ((jc_q 8).2.1 28).2.1 ((jc_q 8).2.1 28).2.2.1 ∈ jw_big := jt_i5 29 rfl rfl
theorem f_M_101 : jl_f "TemplateEngineModel" 101 8 29 := ⟨jc_o8, by decide, Or.inl (jt_i5 30 rfl rfl)⟩
theorem w_M_101 : Cond.fieldLink "TemplateEngineModel" 101 ((jc_q 8).2.1 29).1 ((jc_q 8).2.1 29).2.1 ((jc_q 8).2.1 29).2.2.1 ∈ jw_big := jt_i5 30 rfl rfl
theorem f_M_104 : jl_f "TemplateEngineModel" 104 8 30 := ⟨jc_o8, by decide, Or.inl (jt_i5 31 rfl rfl)⟩
theorem w_M_104 : Cond.fieldLink "TemplateEngineModel" 104 ((jc_q 8).2.1 30).1 ((jc_q 8).2.1 30).2.1 ((jc_q 8).2.1 30).2.2.1 ∈ jw_big := jt_i5 31 rfl rfl
theorem f_M_107 : jl_f "TemplateEngineModel" 107 8 31 := ⟨jc_o8, by decide, Or.inl (jt_i5 32 rfl rfl)⟩
theorem w_M_107 : Cond.fieldLink "TemplateEngineModel" 107 ((jc_q 8).2.1 31).1 ((jc_q 8).2.1 31).2.1 ((jc_q 8).2.1 31).2.2.1 ∈ jw_big := jt_i5 32 rfl rfl
theorem f_M_110 : jl_f "TemplateEngineModel" 110 8 32 := ⟨jc_o8, by decide, Or.inl (jt_i5 33 rfl rfl)⟩
theorem w_M_110 : Cond.fieldLink "TemplateEngineModel" 110 ((jc_q 8).2.1 32).1 ((jc_q 8).2.1 32).2.1 ((jc_q 8).2.1 32).2.2.1 ∈ jw_big := jt_i5 33 rfl rfl
theorem f_M_113 : jl_f "TemplateEngineModel" 113 8 33 := ⟨jc_o8, by decide, Or.inl (jt_i5 34 rfl rfl)⟩
theorem f_M_116 : jl_f "TemplateEngineModel" 116 8 34 := ⟨jc_o8, by decide, Or.inl (jt_i5 35 rfl rfl)⟩
theorem f_M_119 : jl_f "TemplateEngineModel" 119 8 35 := ⟨jc_o8, by decide, Or.inl (jt_i5 36 rfl rfl)⟩
theorem f_M_122 : jl_f "TemplateEngineModel" 122 8 36 := ⟨jc_o8, by decide, Or.inl (jt_i5 37 rfl rfl)⟩
theorem f_M_125 : jl_f "TemplateEngineModel" 125 8 37 := ⟨jc_o8, by decide, Or.inl (jt_i5 38 rfl rfl)⟩
theorem f_M_128 : jl_f "TemplateEngineModel" 128 8 38 := ⟨jc_o8, by decide, Or.inl (jt_i5 39 rfl rfl)⟩
theorem f_M_131 : jl_f "TemplateEngineModel" 131 8 39 := ⟨jc_o8, by decide, Or.inl (jt_i5 40 rfl rfl)⟩
theorem f_M_134 : jl_f "TemplateEngineModel" 134 8 40 := ⟨jc_o8, by decide, Or.inl (jt_i5 41 rfl rfl)⟩
theorem w_M_134 : Cond.fieldLink "TemplateEngineModel" 134 ((jc_q 8).2.1 40).1 ((jc_q 8).2.1 40).2.1 ((jc_q 8).2.1 40).2.2.1 ∈ jw_big := jt_i5 41 rfl rfl
theorem f_M_137 : jl_f "TemplateEngineModel" 137 8 41 := ⟨jc_o8, by decide, Or.inl (jt_i5 42 rfl rfl)⟩
theorem w_M_137 : Cond.fieldLink "TemplateEngineModel" 137 ((jc_q 8).2.1 41).1 ((jc_q 8).2.1 41).2.1 ((jc_q 8).2.1 41).2.2.1 ∈ jw_big := jt_i5 42 rfl rfl
theorem f_M_140 : jl_f "TemplateEngineModel" 140 8 42 := ⟨jc_o8, by decide, Or.inl (jt_i5 43 rfl rfl)⟩
theorem w_M_140 : Cond.fieldLink "TemplateEngineModel" 140 ((jc_q 8).2.1 42).1 ((jc_q 8).2.1 42).2.1 ((jc_q 8).2.1 42).2.2.1 ∈ jw_big := jt_i5 43 rfl rfl
theorem f_M_143 : jl_f "TemplateEngineModel" 143 8 43 := ⟨jc_o8, by decide, Or.inl (jt_i5 44 rfl rfl)⟩
theorem w_M_143 : Cond.fieldLink "TemplateEngineModel" 143 ((jc_q 8).2.1 43).1 ((jc_q 8).2.1 43).2.1 ((jc_q 8).2.1 43).2.2.1 ∈ jw_big := jt_i5 44 rfl rfl
theorem f_M_146 : jl_f "TemplateEngineModel" 146 8 44 := ⟨jc_o8, by decide, Or.inl (jt_i5 45 rfl rfl)⟩
theorem w_M_146 : Cond.fieldLink "TemplateEngineModel" 146 ((jc_q 8).2.1 44).1 ((jc_q 8).2.1 44).2.1 ((jc_q 8).2.1 44).2.2.1 ∈ jw_big := jt_i5 45 rfl rfl
theorem f_M_149 : jl_f "TemplateEngineModel" 149 8 45 := ⟨jc_o8, by decide, Or.inl (jt_i5 46 rfl rfl)⟩
theorem w_M_149 : Cond.fieldLink "TemplateEngineModel" 149 ((jc_q 8).2.1 45).1 ((jc_q 8).2.1 45).2.1 ((jc_q 8).2.1 45).2.2.1 ∈ jw_big := jt_i5 46 rfl rfl
theorem f_M_152 : jl_f "TemplateEngineModel" 152 8 46 := ⟨jc_o8, by decide, Or.inl (jt_i5 47 rfl rfl)⟩
theorem w_M_152 : Cond.fieldLink "TemplateEngineModel" 152 ((jc_q 8).2.1 46).1 ((jc_q 8).2.1 46).2.1 ((jc_q 8).2.1 46).2.2.1 ∈ jw_big := jt_i5 47 rfl rfl
theorem f_M_155 : jl_f "TemplateEngineModel" 155 8 47 := ⟨jc_o8, by decide, Or.inl (jt_i5 48 rfl rfl)⟩
theorem w_M_155 : Cond.fieldLink "TemplateEngineModel" 155 ((jc_q 8).2.1 47).1 ((jc_q 8).2.1 47).2.1 ((jc_q 8).2.1 47).2.2.1 ∈ jw_big := jt_i5 48 rfl rfl
theorem c_L_58 : jl_k "TemplateEngineLaw" 58 m_E_init.1 := Or.inl (jt_i1 32 rfl rfl)
theorem c_E_11 : jl_k "TemplateEngine" 11 m_T_init.1 := Or.inr ⟨"TemplateEngine", jt_n2 0 rfl⟩
theorem c_E_36 : jl_k "TemplateEngine" 36 m_R_init.1 := Or.inr ⟨"TemplateEngine", jt_n2 1 rfl⟩
theorem c_R_20 : jl_k "TemplateEngine$Renderer" 20 m_V_ofNumber.1 := Or.inr ⟨"TemplateEngine", jt_n2 2 rfl⟩
theorem c_V_11 : jl_k "TemplateEngine$Value" 11 m_V_init.1 := Or.inl (jt_i1 73 rfl rfl)
theorem c_R_30 : jl_k "TemplateEngine$Renderer" 30 m_T_init.1 := Or.inr ⟨"TemplateEngine", jt_n2 3 rfl⟩
theorem c_R_46 : jl_k "TemplateEngine$Renderer" 46 m_V_ofText.1 := Or.inr ⟨"TemplateEngine", jt_n2 4 rfl⟩
theorem c_L_94 : jl_k "TemplateEngineLaw" 94 m_E_errorAt.1 := Or.inl (jt_i1 179 rfl rfl)
theorem c_L_110 : jl_k "TemplateEngineLaw" 110 m_E_count.1 := Or.inl (jt_i1 183 rfl rfl)
theorem c_E_171 : jl_k "TemplateEngine" 171 m_E_templatesThere.1 := Or.inl (jt_i1 187 rfl rfl)
theorem c_L_62 : jl_k "TemplateEngineLaw" 62 m_L_type.1 := Or.inl (jt_i1 191 rfl rfl)
theorem c_L_7 : jl_k "TemplateEngineLaw" 7 m_E_type.1 := Or.inl (jt_i1 196 rfl rfl)
theorem c_E_59 : jl_k "TemplateEngine" 59 m_T_append.1 := Or.inr ⟨"TemplateEngine", jt_n2 5 rfl⟩
theorem c_L_71 : jl_k "TemplateEngineLaw" 71 m_L_number.1 := Or.inl (jt_i2 53 rfl rfl)
theorem c_L_17 : jl_k "TemplateEngineLaw" 17 m_E_number.1 := Or.inl (jt_i2 56 rfl rfl)
theorem c_E_68 : jl_k "TemplateEngine" 68 m_V_ofNumber.1 := Or.inr ⟨"TemplateEngine", jt_n2 6 rfl⟩
theorem c_E_72 : jl_k "TemplateEngine" 72 m_E_keep.1 := Or.inl (jt_i2 62 rfl rfl)
theorem c_L_74 : jl_k "TemplateEngineLaw" 74 m_L_text.1 := Or.inl (jt_i2 66 rfl rfl)
theorem c_L_20 : jl_k "TemplateEngineLaw" 20 m_E_text.1 := Or.inl (jt_i2 69 rfl rfl)
theorem c_E_76 : jl_k "TemplateEngine" 76 m_T_copyOf.1 := Or.inr ⟨"TemplateEngine", jt_n2 7 rfl⟩
theorem c_T_60 : jl_k "TemplateEngine$Text" 60 m_T_init.1 := Or.inl (jt_i2 81 rfl rfl)
theorem c_T_35 : jl_k "TemplateEngine$Text" 35 m_T_append.1 := Or.inl (jt_i2 82 rfl rfl)
theorem c_E_80 : jl_k "TemplateEngine" 80 m_V_ofText.1 := Or.inr ⟨"TemplateEngine", jt_n2 8 rfl⟩
theorem c_E_84 : jl_k "TemplateEngine" 84 m_T_clear.1 := Or.inr ⟨"TemplateEngine", jt_n2 9 rfl⟩
theorem c_L_78 : jl_k "TemplateEngineLaw" 78 m_L_list.1 := Or.inl (jt_i2 88 rfl rfl)
theorem c_L_24 : jl_k "TemplateEngineLaw" 24 m_E_list.1 := Or.inl (jt_i2 91 rfl rfl)
theorem c_E_87 : jl_k "TemplateEngine" 87 m_V_ofEntries.1 := Or.inr ⟨"TemplateEngine", jt_n2 10 rfl⟩
theorem c_L_81 : jl_k "TemplateEngineLaw" 81 m_L_map.1 := Or.inl (jt_i2 99 rfl rfl)
theorem c_L_27 : jl_k "TemplateEngineLaw" 27 m_E_map.1 := Or.inl (jt_i2 102 rfl rfl)
theorem c_L_84 : jl_k "TemplateEngineLaw" 84 m_L_add.1 := Or.inl (jt_i2 106 rfl rfl)
theorem c_L_30 : jl_k "TemplateEngineLaw" 30 m_E_add.1 := Or.inl (jt_i2 110 rfl rfl)
theorem c_E_90 : jl_k "TemplateEngine" 90 m_E_isData.1 := Or.inl (jt_i2 114 rfl rfl)
theorem c_E_102 : jl_k "TemplateEngine" 102 m_E_wouldHoldItself.1 := Or.inl (jt_i2 134 rfl rfl)
theorem c_E_180 : jl_k "TemplateEngine" 180 m_E_isWithin.1 := Or.inl (jt_i2 138 rfl rfl)
theorem c_E_113 : jl_k "TemplateEngine" 113 m_V_setEntry.1 := Or.inr ⟨"TemplateEngine", jt_n2 11 rfl⟩
theorem c_L_88 : jl_k "TemplateEngineLaw" 88 m_L_put.1 := Or.inl (jt_i2 149 rfl rfl)
theorem c_L_36 : jl_k "TemplateEngineLaw" 36 m_E_put.1 := Or.inl (jt_i2 152 rfl rfl)
theorem c_E_117 : jl_k "TemplateEngine" 117 m_T_nameCode.1 := Or.inr ⟨"TemplateEngine", jt_n2 12 rfl⟩
theorem c_E_123 : jl_k "TemplateEngine" 123 m_V_placeOf.1 := Or.inr ⟨"TemplateEngine", jt_n2 13 rfl⟩
theorem c_L_91 : jl_k "TemplateEngineLaw" 91 m_L_compile.1 := Or.inl (jt_i2 167 rfl rfl)
theorem c_L_39 : jl_k "TemplateEngineLaw" 39 m_E_compile.1 := Or.inl (jt_i2 171 rfl rfl)
theorem c_E_136 : jl_k "TemplateEngine" 136 m_P_init.1 := Or.inr ⟨"TemplateEngine", jt_n2 14 rfl⟩
theorem c_P_17 : jl_k "TemplateEngine$TemplateReader" 17 m_N_init.1 := Or.inr ⟨"TemplateEngine", jt_n2 15 rfl⟩
theorem c_E_139 : jl_k "TemplateEngine" 139 m_P_takeApart.1 := Or.inr ⟨"TemplateEngine", jt_n2 16 rfl⟩
theorem c_P_49 : jl_k "TemplateEngine$TemplateReader" 49 m_T_find.1 := Or.inr ⟨"TemplateEngine", jt_n2 17 rfl⟩
theorem c_T_63 : jl_k "TemplateEngine$Text" 63 m_T_hasWord.1 := Or.inl (jt_i3 45 rfl rfl)
theorem c_P_53 : jl_k "TemplateEngine$TemplateReader" 53 m_P_attachPlain.1 := Or.inl (jt_i3 97 rfl rfl)
theorem c_P_102 : jl_k "TemplateEngine$TemplateReader" 102 m_T_copyOf.1 := Or.inr ⟨"TemplateEngine", jt_n2 18 rfl⟩
theorem c_P_109 : jl_k "TemplateEngine$TemplateReader" 109 m_P_attach.1 := Or.inl (jt_i3 104 rfl rfl)
theorem c_P_59 : jl_k "TemplateEngine$TemplateReader" 59 m_T_hasWord.1 := Or.inr ⟨"TemplateEngine", jt_n2 19 rfl⟩
theorem c_P_78 : jl_k "TemplateEngine$TemplateReader" 78 m_P_readSort.1 := Or.inl (jt_i3 113 rfl rfl)
theorem c_P_166 : jl_k "TemplateEngine$TemplateReader" 166 m_P_accept.1 := Or.inl (jt_i3 120 rfl rfl)
theorem c_P_186 : jl_k "TemplateEngine$TemplateReader" 186 m_P_isInside.1 := Or.inl (jt_i3 139 rfl rfl)
theorem c_P_82 : jl_k "TemplateEngine$TemplateReader" 82 m_P_readRest.1 := Or.inl (jt_i3 156 rfl rfl)
theorem c_P_217 : jl_k "TemplateEngine$TemplateReader" 217 m_P_readExpression.1 := Or.inl (jt_i3 168 rfl rfl)
theorem c_P_225 : jl_k "TemplateEngine$TemplateReader" 225 m_P_readHelper.1 := Or.inl (jt_i3 172 rfl rfl)
theorem c_P_229 : jl_k "TemplateEngine$TemplateReader" 229 m_P_readOperand.1 := Or.inl (jt_i3 180 rfl rfl)
theorem c_P_257 : jl_k "TemplateEngine$TemplateReader" 257 m_P_isDigitNext.1 := Or.inl (jt_i3 184 rfl rfl)
theorem c_P_260 : jl_k "TemplateEngine$TemplateReader" 260 m_P_readNumber.1 := Or.inl (jt_i3 188 rfl rfl)
theorem c_P_289 : jl_k "TemplateEngine$TemplateReader" 289 m_P_readDigit.1 := Or.inl (jt_i3 192 rfl rfl)
theorem c_P_278 : jl_k "TemplateEngine$TemplateReader" 278 m_O_init.1 := Or.inr ⟨"TemplateEngine", jt_n2 20 rfl⟩
theorem c_P_295 : jl_k "TemplateEngine$TemplateReader" 295 m_V_ofNumber.1 := Or.inr ⟨"TemplateEngine", jt_n2 21 rfl⟩
theorem c_P_265 : jl_k "TemplateEngine$TemplateReader" 265 m_P_readQuoted.1 := Or.inl (jt_i3 223 rfl rfl)
theorem c_P_305 : jl_k "TemplateEngine$TemplateReader" 305 m_V_ofText.1 := Or.inr ⟨"TemplateEngine", jt_n2 22 rfl⟩
theorem c_P_286 : jl_k "TemplateEngine$TemplateReader" 286 m_P_readPath.1 := Or.inl (jt_i3 234 rfl rfl)
theorem c_P_317 : jl_k "TemplateEngine$TemplateReader" 317 m_P_readName.1 := Or.inl (jt_i4 1 rfl rfl)
theorem c_P_331 : jl_k "TemplateEngine$TemplateReader" 331 m_T_nameCode.1 := Or.inr ⟨"TemplateEngine", jt_n2 23 rfl⟩
theorem c_P_242 : jl_k "TemplateEngine$TemplateReader" 242 m_X_init.1 := Or.inr ⟨"TemplateEngine", jt_n2 24 rfl⟩
theorem c_P_86 : jl_k "TemplateEngine$TemplateReader" 86 m_P_takeIn.1 := Or.inl (jt_i4 44 rfl rfl)
theorem c_P_141 : jl_k "TemplateEngine$TemplateReader" 141 m_P_beginBlock.1 := Or.inl (jt_i4 48 rfl rfl)
theorem c_P_144 : jl_k "TemplateEngine$TemplateReader" 144 m_P_beginOther.1 := Or.inl (jt_i4 52 rfl rfl)
theorem c_P_151 : jl_k "TemplateEngine$TemplateReader" 151 m_P_endBlock.1 := Or.inl (jt_i4 56 rfl rfl)
theorem c_L_98 : jl_k "TemplateEngineLaw" 98 m_L_render.1 := Or.inl (jt_i4 61 rfl rfl)
theorem c_L_44 : jl_k "TemplateEngineLaw" 44 m_E_render.1 := Or.inl (jt_i4 65 rfl rfl)
theorem c_E_154 : jl_k "TemplateEngine" 154 m_R_run.1 := Or.inr ⟨"TemplateEngine", jt_n2 25 rfl⟩
theorem c_R_54 : jl_k "TemplateEngine$Renderer" 54 m_T_clear.1 := Or.inr ⟨"TemplateEngine", jt_n2 26 rfl⟩
theorem c_R_76 : jl_k "TemplateEngine$Renderer" 76 m_R_renderParts.1 := Or.inl (jt_i4 75 rfl rfl)
theorem c_R_102 : jl_k "TemplateEngine$Renderer" 102 m_T_appendText.1 := Or.inr ⟨"TemplateEngine", jt_n2 27 rfl⟩
theorem c_R_106 : jl_k "TemplateEngine$Renderer" 106 m_R_meetTag.1 := Or.inl (jt_i4 85 rfl rfl)
theorem c_R_113 : jl_k "TemplateEngine$Renderer" 113 m_R_evaluate.1 := Or.inl (jt_i4 92 rfl rfl)
theorem c_R_187 : jl_k "TemplateEngine$Renderer" 187 m_R_valueOf.1 := Or.inl (jt_i4 96 rfl rfl)
theorem c_R_216 : jl_k "TemplateEngine$Renderer" 216 m_V_becomeNumber.1 := Or.inr ⟨"TemplateEngine", jt_n2 28 rfl⟩
theorem c_R_246 : jl_k "TemplateEngine$Renderer" 246 m_R_follow.1 := Or.inl (jt_i4 109 rfl rfl)
theorem c_R_229 : jl_k "TemplateEngine$Renderer" 229 m_V_elementAt.1 := Or.inr ⟨"TemplateEngine", jt_n2 29 rfl⟩
theorem c_R_259 : jl_k "TemplateEngine$Renderer" 259 m_V_entryNamed.1 := Or.inr ⟨"TemplateEngine", jt_n2 30 rfl⟩
theorem c_R_117 : jl_k "TemplateEngine$Renderer" 117 m_R_showRaw.1 := Or.inl (jt_i4 127 rfl rfl)
theorem c_R_266 : jl_k "TemplateEngine$Renderer" 266 m_T_appendNumber.1 := Or.inr ⟨"TemplateEngine", jt_n2 31 rfl⟩
theorem c_R_269 : jl_k "TemplateEngine$Renderer" 269 m_T_append.1 := Or.inr ⟨"TemplateEngine", jt_n2 32 rfl⟩
theorem c_R_275 : jl_k "TemplateEngine$Renderer" 275 m_T_appendWord.1 := Or.inr ⟨"TemplateEngine", jt_n2 33 rfl⟩
theorem c_R_207 : jl_k "TemplateEngine$Renderer" 207 m_T_raiseLetters.1 := Or.inr ⟨"TemplateEngine", jt_n2 34 rfl⟩
theorem c_R_213 : jl_k "TemplateEngine$Renderer" 213 m_V_measure.1 := Or.inr ⟨"TemplateEngine", jt_n2 35 rfl⟩
theorem c_R_158 : jl_k "TemplateEngine$Renderer" 158 m_R_isFalse.1 := Or.inl (jt_i4 151 rfl rfl)
theorem c_R_278 : jl_k "TemplateEngine$Renderer" 278 m_V_isFalse.1 := Or.inr ⟨"TemplateEngine", jt_n2 36 rfl⟩
theorem c_R_219 : jl_k "TemplateEngine$Renderer" 219 m_R_isNumber.1 := Or.inl (jt_i4 158 rfl rfl)
theorem c_R_225 : jl_k "TemplateEngine$Renderer" 225 m_T_isLike.1 := Or.inr ⟨"TemplateEngine", jt_n2 37 rfl⟩
theorem c_R_121 : jl_k "TemplateEngine$Renderer" 121 m_R_showEscaped.1 := Or.inl (jt_i4 165 rfl rfl)
theorem c_R_263 : jl_k "TemplateEngine$Renderer" 263 m_T_appendEscaped.1 := Or.inr ⟨"TemplateEngine", jt_n2 38 rfl⟩
theorem c_T_41 : jl_k "TemplateEngine$Text" 41 m_T_appendWord.1 := Or.inl (jt_i4 174 rfl rfl)
theorem c_R_128 : jl_k "TemplateEngine$Renderer" 128 m_R_renderPartial.1 := Or.inl (jt_i4 178 rfl rfl)
theorem c_R_132 : jl_k "TemplateEngine$Renderer" 132 m_R_renderBlock.1 := Or.inl (jt_i4 201 rfl rfl)
theorem c_R_174 : jl_k "TemplateEngine$Renderer" 174 m_R_renderEach.1 := Or.inl (jt_i4 208 rfl rfl)
theorem c_L_101 : jl_k "TemplateEngineLaw" 101 m_L_at.1 := Or.inl (jt_i4 212 rfl rfl)
theorem c_L_49 : jl_k "TemplateEngineLaw" 49 m_E_at.1 := Or.inl (jt_i4 215 rfl rfl)
theorem c_L_104 : jl_k "TemplateEngineLaw" 104 m_L_kind.1 := Or.inl (jt_i4 220 rfl rfl)
theorem c_L_52 : jl_k "TemplateEngineLaw" 52 m_E_kind.1 := Or.inl (jt_i4 223 rfl rfl)
theorem c_L_107 : jl_k "TemplateEngineLaw" 107 m_L_size.1 := Or.inl (jt_i4 227 rfl rfl)
theorem c_L_55 : jl_k "TemplateEngineLaw" 55 m_E_size.1 := Or.inl (jt_i4 230 rfl rfl)
theorem c_E_167 : jl_k "TemplateEngine" 167 m_V_measure.1 := Or.inr ⟨"TemplateEngine", jt_n2 39 rfl⟩
theorem c_L_61 : jl_k "TemplateEngineLaw" 61 m_M_init.1 := Or.inl (jt_i4 237 rfl rfl)
theorem c_L_68 : jl_k "TemplateEngineLaw" 68 m_M_thrown.1 := Or.inl (jt_i5 148 rfl rfl)
theorem c_L_67 : jl_k "TemplateEngineLaw" 67 m_M_type.1 := Or.inl (jt_i5 152 rfl rfl)
theorem c_M_158 : jl_k "TemplateEngineModel" 158 m_M_refuse.1 := Or.inl (jt_i5 156 rfl rfl)
theorem c_M_162 : jl_k "TemplateEngineModel" 162 m_M_fine.1 := Or.inl (jt_i5 160 rfl rfl)
theorem c_L_73 : jl_k "TemplateEngineLaw" 73 m_M_number.1 := Or.inl (jt_i5 164 rfl rfl)
theorem c_M_165 : jl_k "TemplateEngineModel" 165 m_M_make.1 := Or.inl (jt_i5 168 rfl rfl)
theorem c_L_77 : jl_k "TemplateEngineLaw" 77 m_M_text.1 := Or.inl (jt_i5 172 rfl rfl)
theorem c_L_80 : jl_k "TemplateEngineLaw" 80 m_M_list.1 := Or.inl (jt_i5 176 rfl rfl)
theorem c_L_83 : jl_k "TemplateEngineLaw" 83 m_M_map.1 := Or.inl (jt_i5 180 rfl rfl)
theorem c_L_87 : jl_k "TemplateEngineLaw" 87 m_M_add.1 := Or.inl (jt_i5 184 rfl rfl)
theorem c_M_169 : jl_k "TemplateEngineModel" 169 m_M_no.1 := Or.inl (jt_i5 188 rfl rfl)
theorem c_M_173 : jl_k "TemplateEngineModel" 173 m_M_holds.1 := Or.inl (jt_i5 192 rfl rfl)
theorem c_L_90 : jl_k "TemplateEngineLaw" 90 m_M_put.1 := Or.inl (jt_i5 196 rfl rfl)
theorem c_M_184 : jl_k "TemplateEngineModel" 184 m_M_lineName.1 := Or.inl (jt_i5 200 rfl rfl)
theorem c_M_177 : jl_k "TemplateEngineModel" 177 m_M_letter.1 := Or.inl (jt_i5 204 rfl rfl)
theorem c_M_188 : jl_k "TemplateEngineModel" 188 m_M_find.1 := Or.inl (jt_i5 210 rfl rfl)
theorem c_L_93 : jl_k "TemplateEngineLaw" 93 m_M_compile.1 := Or.inl (jt_i5 214 rfl rfl)
theorem c_M_275 : jl_k "TemplateEngineModel" 275 m_M_takeApart.1 := Or.inl (jt_i5 218 rfl rfl)
theorem c_M_268 : jl_k "TemplateEngineModel" 268 m_M_takeTag.1 := Or.inl (jt_i5 222 rfl rfl)
theorem c_M_199 : jl_k "TemplateEngineModel" 199 m_M_stands.1 := Or.inl (jt_i5 227 rfl rfl)
theorem c_M_194 : jl_k "TemplateEngineModel" 194 m_M_at0.1 := Or.inl (jt_i5 232 rfl rfl)
theorem c_M_264 : jl_k "TemplateEngineModel" 264 m_M_sortOf.1 := Or.inl (jt_i5 239 rfl rfl)
theorem c_M_239 : jl_k "TemplateEngineModel" 239 m_M_isExpr.1 := Or.inl (jt_i6 3 rfl rfl)
theorem c_M_230 : jl_k "TemplateEngineModel" 230 m_M_helper.1 := Or.inl (jt_i6 7 rfl rfl)
theorem c_M_233 : jl_k "TemplateEngineModel" 233 m_M_operandEnd.1 := Or.inl (jt_i6 17 rfl rfl)
theorem c_M_212 : jl_k "TemplateEngineModel" 212 m_M_digit.1 := Or.inl (jt_i6 21 rfl rfl)
theorem c_M_215 : jl_k "TemplateEngineModel" 215 m_M_pathEnd.1 := Or.inl (jt_i6 25 rfl rfl)
theorem c_M_207 : jl_k "TemplateEngineModel" 207 m_M_letters.1 := Or.inl (jt_i6 32 rfl rfl)
theorem c_M_236 : jl_k "TemplateEngineModel" 236 m_M_nameSize.1 := Or.inl (jt_i6 37 rfl rfl)
theorem c_M_272 : jl_k "TemplateEngineModel" 272 m_M_fit.1 := Or.inl (jt_i6 48 rfl rfl)
theorem c_M_279 : jl_k "TemplateEngineModel" 279 m_M_moved.1 := Or.inl (jt_i6 52 rfl rfl)
theorem c_L_97 : jl_k "TemplateEngineLaw" 97 m_M_errorAt.1 := Or.inl (jt_i6 56 rfl rfl)
theorem c_L_100 : jl_k "TemplateEngineLaw" 100 m_M_render.1 := Or.inl (jt_i6 60 rfl rfl)
theorem c_M_313 : jl_k "TemplateEngineModel" 313 m_M_load.1 := Or.inl (jt_i6 64 rfl rfl)
theorem c_M_282 : jl_k "TemplateEngineModel" 282 m_M_dataLetter.1 := Or.inl (jt_i6 68 rfl rfl)
theorem c_M_399 : jl_k "TemplateEngineModel" 399 m_M_go.1 := Or.inl (jt_i6 72 rfl rfl)
theorem c_M_390 : jl_k "TemplateEngineModel" 390 m_M_here.1 := Or.inl (jt_i6 76 rfl rfl)
theorem c_M_393 : jl_k "TemplateEngineModel" 393 m_M_tagFrom.1 := Or.inl (jt_i6 80 rfl rfl)
theorem c_M_349 : jl_k "TemplateEngineModel" 349 m_M_emit.1 := Or.inl (jt_i6 84 rfl rfl)
theorem c_M_396 : jl_k "TemplateEngineModel" 396 m_M_tag.1 := Or.inl (jt_i6 88 rfl rfl)
theorem c_M_374 : jl_k "TemplateEngineModel" 374 m_M_ends.1 := Or.inl (jt_i6 92 rfl rfl)
theorem c_M_371 : jl_k "TemplateEngineModel" 371 m_M_nextTurn.1 := Or.inl (jt_i6 96 rfl rfl)
theorem c_M_377 : jl_k "TemplateEngineModel" 377 m_M_block.1 := Or.inl (jt_i6 100 rfl rfl)
theorem c_M_364 : jl_k "TemplateEngineModel" 364 m_M_expr.1 := Or.inl (jt_i6 104 rfl rfl)
theorem c_M_336 : jl_k "TemplateEngineModel" 336 m_M_operand.1 := Or.inl (jt_i6 108 rfl rfl)
theorem c_M_320 : jl_k "TemplateEngineModel" 320 m_M_setNumber.1 := Or.inl (jt_i6 112 rfl rfl)
theorem c_M_333 : jl_k "TemplateEngineModel" 333 m_M_path.1 := Or.inl (jt_i6 116 rfl rfl)
theorem c_M_317 : jl_k "TemplateEngineModel" 317 m_M_loop.1 := Or.inl (jt_i6 120 rfl rfl)
theorem c_M_310 : jl_k "TemplateEngineModel" 310 m_M_nothing.1 := Or.inl (jt_i6 124 rfl rfl)
theorem c_M_323 : jl_k "TemplateEngineModel" 323 m_M_copy.1 := Or.inl (jt_i6 128 rfl rfl)
theorem c_M_326 : jl_k "TemplateEngineModel" 326 m_M_member.1 := Or.inl (jt_i6 132 rfl rfl)
theorem c_M_330 : jl_k "TemplateEngineModel" 330 m_M_element.1 := Or.inl (jt_i6 136 rfl rfl)
theorem c_M_339 : jl_k "TemplateEngineModel" 339 m_M_upper.1 := Or.inl (jt_i6 140 rfl rfl)
theorem c_M_304 : jl_k "TemplateEngineModel" 304 m_M_showRaw.1 := Or.inl (jt_i6 144 rfl rfl)
theorem c_M_295 : jl_k "TemplateEngineModel" 295 m_M_rawNumber.1 := Or.inl (jt_i6 148 rfl rfl)
theorem c_M_285 : jl_k "TemplateEngineModel" 285 m_M_rawPut.1 := Or.inl (jt_i6 152 rfl rfl)
theorem c_M_301 : jl_k "TemplateEngineModel" 301 m_M_rawData.1 := Or.inl (jt_i6 159 rfl rfl)
theorem c_M_298 : jl_k "TemplateEngineModel" 298 m_M_rawMap.1 := Or.inl (jt_i6 163 rfl rfl)
theorem c_M_307 : jl_k "TemplateEngineModel" 307 m_M_lengthOf.1 := Or.inl (jt_i6 167 rfl rfl)
theorem c_M_342 : jl_k "TemplateEngineModel" 342 m_M_isFalse.1 := Or.inl (jt_i6 171 rfl rfl)
theorem c_M_345 : jl_k "TemplateEngineModel" 345 m_M_alike.1 := Or.inl (jt_i6 175 rfl rfl)
theorem c_M_367 : jl_k "TemplateEngineModel" 367 m_M_push.1 := Or.inl (jt_i6 179 rfl rfl)
theorem c_M_380 : jl_k "TemplateEngineModel" 380 m_M_underTemplates.1 := Or.inl (jt_i6 183 rfl rfl)
theorem c_M_383 : jl_k "TemplateEngineModel" 383 m_M_partial.1 := Or.inl (jt_i6 187 rfl rfl)
theorem c_M_386 : jl_k "TemplateEngineModel" 386 m_M_show.1 := Or.inl (jt_i6 191 rfl rfl)
theorem c_M_360 : jl_k "TemplateEngineModel" 360 m_M_emitWord.1 := Or.inl (jt_i6 199 rfl rfl)
theorem c_L_103 : jl_k "TemplateEngineLaw" 103 m_M_at.1 := Or.inl (jt_i6 203 rfl rfl)
theorem c_L_106 : jl_k "TemplateEngineLaw" 106 m_M_kind.1 := Or.inl (jt_i6 207 rfl rfl)
theorem c_L_109 : jl_k "TemplateEngineLaw" 109 m_M_size.1 := Or.inl (jt_i6 211 rfl rfl)
theorem c_L_113 : jl_k "TemplateEngineLaw" 113 m_M_count.1 := Or.inl (jt_i6 215 rfl rfl)
theorem n_L_8 : Cond.classLink "TemplateEngineLaw" 8 "TemplateEngine" ∈ jw_big := jt_i1 30 rfl rfl
theorem n_E_9 : Cond.classLink "TemplateEngine" 9 "TemplateEngine$Text" ∈ jw_big := jt_i1 38 rfl rfl
theorem n_E_18 : Cond.classLink "TemplateEngine" 18 "TemplateEngine$Value" ∈ jw_big := jt_i1 57 rfl rfl
theorem n_E_24 : Cond.classLink "TemplateEngine" 24 "TemplateEngine$Part" ∈ jw_big := jt_i1 59 rfl rfl
theorem n_E_34 : Cond.classLink "TemplateEngine" 34 "TemplateEngine$Renderer" ∈ jw_big := jt_i1 61 rfl rfl
theorem n_R_9 : Cond.classLink "TemplateEngine$Renderer" 9 "TemplateEngine$Value" ∈ jw_big := jt_i1 67 rfl rfl
theorem n_V_9 : Cond.classLink "TemplateEngine$Value" 9 "TemplateEngine$Value" ∈ jw_big := jt_i1 71 rfl rfl
theorem n_R_28 : Cond.classLink "TemplateEngine$Renderer" 28 "TemplateEngine$Text" ∈ jw_big := jt_i1 107 rfl rfl
theorem n_L_13 : Cond.classLink "TemplateEngineLaw" 13 "java/lang/IllegalArgumentException" ∈ jw_big := jt_i1 194 rfl rfl
theorem n_L_15 : Cond.classLink "TemplateEngineLaw" 15 "java/lang/IllegalStateException" ∈ jw_big := jt_i1 195 rfl rfl
theorem n_E_44 : Cond.classLink "TemplateEngine" 44 "java/lang/IllegalArgumentException" ∈ jw_big := jt_i1 200 rfl rfl
theorem n_E_54 : Cond.classLink "TemplateEngine" 54 "java/lang/IllegalStateException" ∈ jw_big := jt_i2 30 rfl rfl
theorem n_T_19 : Cond.classLink "TemplateEngine$Text" 19 "java/lang/IllegalStateException" ∈ jw_big := jt_i2 50 rfl rfl
theorem n_T_10 : Cond.classLink "TemplateEngine$Text" 10 "TemplateEngine$Text" ∈ jw_big := jt_i2 77 rfl rfl
theorem n_L_34 : Cond.classLink "TemplateEngineLaw" 34 "java/util/NoSuchElementException" ∈ jw_big := jt_i2 109 rfl rfl
theorem n_E_94 : Cond.classLink "TemplateEngine" 94 "java/util/NoSuchElementException" ∈ jw_big := jt_i2 118 rfl rfl
theorem n_L_42 : Cond.classLink "TemplateEngineLaw" 42 "java/lang/IndexOutOfBoundsException" ∈ jw_big := jt_i2 170 rfl rfl
theorem n_E_129 : Cond.classLink "TemplateEngine" 129 "java/lang/IndexOutOfBoundsException" ∈ jw_big := jt_i2 175 rfl rfl
theorem n_E_134 : Cond.classLink "TemplateEngine" 134 "TemplateEngine$TemplateReader" ∈ jw_big := jt_i2 191 rfl rfl
theorem n_P_9 : Cond.classLink "TemplateEngine$TemplateReader" 9 "TemplateEngine$Part" ∈ jw_big := jt_i2 197 rfl rfl
theorem n_P_270 : Cond.classLink "TemplateEngine$TemplateReader" 270 "TemplateEngine$Operand" ∈ jw_big := jt_i3 196 rfl rfl
theorem n_jA_320 : Cond.classLink "java/util/Arrays" 320 "[J" ∈ jw_big := jt_i4 17 rfl rfl
theorem n_P_240 : Cond.classLink "TemplateEngine$TemplateReader" 240 "TemplateEngine$Expression" ∈ jw_big := jt_i4 25 rfl rfl
theorem n_L_47 : Cond.classLink "TemplateEngineLaw" 47 "java/lang/ArithmeticException" ∈ jw_big := jt_i4 64 rfl rfl
theorem n_R_138 : Cond.classLink "TemplateEngine$Renderer" 138 "java/lang/IllegalStateException" ∈ jw_big := jt_i4 89 rfl rfl
theorem n_R_145 : Cond.classLink "TemplateEngine$Renderer" 145 "java/util/NoSuchElementException" ∈ jw_big := jt_i4 182 rfl rfl
theorem n_R_150 : Cond.classLink "TemplateEngine$Renderer" 150 "java/lang/ArithmeticException" ∈ jw_big := jt_i4 185 rfl rfl
theorem n_L_59 : Cond.classLink "TemplateEngineLaw" 59 "TemplateEngineModel" ∈ jw_big := jt_i4 235 rfl rfl
theorem a_0 : Cond.instantiable (jc_q 0).1 (jc_q 0).2.2 ∈ jw_big := jt_i1 31 rfl rfl
theorem b_0 : Cond.initialized (jc_q 0).1 ∈ jw_big := jt_i1 1 rfl rfl
theorem e_0 : ∀ j, j < (jc_q 0).2.2 → defaultValue (jc_ty 0 j) = (match jc_so (jc_ty 0 j) with | 0 => Value.int 0 | 1 => .long 0 | _ => .null) := by decide +kernel
theorem a_1 : Cond.instantiable (jc_q 1).1 (jc_q 1).2.2 ∈ jw_big := jt_i1 39 rfl rfl
theorem b_1 : Cond.initialized (jc_q 1).1 ∈ jw_big := jt_i1 2 rfl rfl
theorem e_1 : ∀ j, j < (jc_q 1).2.2 → defaultValue (jc_ty 1 j) = (match jc_so (jc_ty 1 j) with | 0 => Value.int 0 | 1 => .long 0 | _ => .null) := by decide +kernel
theorem a_2 : Cond.instantiable (jc_q 2).1 (jc_q 2).2.2 ∈ jw_big := jt_i1 72 rfl rfl
theorem b_2 : Cond.initialized (jc_q 2).1 ∈ jw_big := jt_i1 4 rfl rfl
theorem e_2 : ∀ j, j < (jc_q 2).2.2 → defaultValue (jc_ty 2 j) = (match jc_so (jc_ty 2 j) with | 0 => Value.int 0 | 1 => .long 0 | _ => .null) := by decide +kernel
theorem a_3 : Cond.instantiable (jc_q 3).1 (jc_q 3).2.2 ∈ jw_big := jt_i1 62 rfl rfl
theorem b_3 : Cond.initialized (jc_q 3).1 ∈ jw_big := jt_i1 3 rfl rfl
theorem e_3 : ∀ j, j < (jc_q 3).2.2 → defaultValue (jc_ty 3 j) = (match jc_so (jc_ty 3 j) with | 0 => Value.int 0 | 1 => .long 0 | _ => .null) := by decide +kernel
theorem a_4 : Cond.instantiable (jc_q 4).1 (jc_q 4).2.2 ∈ jw_big := jt_i2 192 rfl rfl
theorem b_4 : Cond.initialized (jc_q 4).1 ∈ jw_big := jt_i1 14 rfl rfl
theorem e_4 : ∀ j, j < (jc_q 4).2.2 → defaultValue (jc_ty 4 j) = (match jc_so (jc_ty 4 j) with | 0 => Value.int 0 | 1 => .long 0 | _ => .null) := by decide +kernel
theorem a_5 : Cond.instantiable (jc_q 5).1 (jc_q 5).2.2 ∈ jw_big := jt_i2 198 rfl rfl
theorem b_5 : Cond.initialized (jc_q 5).1 ∈ jw_big := jt_i1 15 rfl rfl
theorem e_5 : ∀ j, j < (jc_q 5).2.2 → defaultValue (jc_ty 5 j) = (match jc_so (jc_ty 5 j) with | 0 => Value.int 0 | 1 => .long 0 | _ => .null) := by decide +kernel
theorem a_6 : Cond.instantiable (jc_q 6).1 (jc_q 6).2.2 ∈ jw_big := jt_i4 26 rfl rfl
theorem b_6 : Cond.initialized (jc_q 6).1 ∈ jw_big := jt_i1 28 rfl rfl
theorem e_6 : ∀ j, j < (jc_q 6).2.2 → defaultValue (jc_ty 6 j) = (match jc_so (jc_ty 6 j) with | 0 => Value.int 0 | 1 => .long 0 | _ => .null) := by decide +kernel
theorem a_7 : Cond.instantiable (jc_q 7).1 (jc_q 7).2.2 ∈ jw_big := jt_i3 197 rfl rfl
theorem b_7 : Cond.initialized (jc_q 7).1 ∈ jw_big := jt_i1 24 rfl rfl
theorem e_7 : ∀ j, j < (jc_q 7).2.2 → defaultValue (jc_ty 7 j) = (match jc_so (jc_ty 7 j) with | 0 => Value.int 0 | 1 => .long 0 | _ => .null) := by decide +kernel
theorem a_8 : Cond.instantiable (jc_q 8).1 (jc_q 8).2.2 ∈ jw_big := jt_i4 236 rfl rfl
theorem b_8 : Cond.initialized (jc_q 8).1 ∈ jw_big := jt_i1 5 rfl rfl
theorem e_8 : ∀ j, j < (jc_q 8).2.2 → defaultValue (jc_ty 8 j) = (match jc_so (jc_ty 8 j) with | 0 => Value.int 0 | 1 => .long 0 | _ => .null) := by decide +kernel
theorem v_0 : Cond.arrayClass .char ∈ jw_big := jt_i1 56 rfl rfl
theorem v_1 : Cond.arrayClass .int ∈ jw_big := jt_i5 146 rfl rfl
theorem v_2 : Cond.arrayClass .long ∈ jw_big := jt_i2 98 rfl rfl
theorem v_3 : Cond.arrayClass .boolean ∈ jw_big := jt_i5 147 rfl rfl
end
section
/-! the instructions are the code's -/
theorem k_E_init : ∀ pc x, m_E_init.2.2.2.2 pc = some x → decode m_E_init.2.1 pc = .ok x := jt_k (by decide +kernel)
theorem k_E_type : ∀ pc x, m_E_type.2.2.2.2 pc = some x → decode m_E_type.2.1 pc = .ok x := jt_k (by decide +kernel)
theorem k_E_number : ∀ pc x, m_E_number.2.2.2.2 pc = some x → decode m_E_number.2.1 pc = .ok x := jt_k (by decide +kernel)
theorem k_E_text : ∀ pc x, m_E_text.2.2.2.2 pc = some x → decode m_E_text.2.1 pc = .ok x := jt_k (by decide +kernel)
theorem k_E_list : ∀ pc x, m_E_list.2.2.2.2 pc = some x → decode m_E_list.2.1 pc = .ok x := jt_k (by decide +kernel)
theorem k_E_map : ∀ pc x, m_E_map.2.2.2.2 pc = some x → decode m_E_map.2.1 pc = .ok x := jt_k (by decide +kernel)
theorem k_E_add : ∀ pc x, m_E_add.2.2.2.2 pc = some x → decode m_E_add.2.1 pc = .ok x := jt_k (by decide +kernel)
theorem k_E_put : ∀ pc x, m_E_put.2.2.2.2 pc = some x → decode m_E_put.2.1 pc = .ok x := jt_k (by decide +kernel)
theorem k_E_compile : ∀ pc x, m_E_compile.2.2.2.2 pc = some x → decode m_E_compile.2.1 pc = .ok x := jt_k (by decide +kernel)
theorem k_E_errorAt : ∀ pc x, m_E_errorAt.2.2.2.2 pc = some x → decode m_E_errorAt.2.1 pc = .ok x := jt_k (by decide +kernel)
theorem k_E_render : ∀ pc x, m_E_render.2.2.2.2 pc = some x → decode m_E_render.2.1 pc = .ok x := jt_k (by decide +kernel)
theorem k_E_at : ∀ pc x, m_E_at.2.2.2.2 pc = some x → decode m_E_at.2.1 pc = .ok x := jt_k (by decide +kernel)
theorem k_E_kind : ∀ pc x, m_E_kind.2.2.2.2 pc = some x → decode m_E_kind.2.1 pc = .ok x := jt_k (by decide +kernel)
theorem k_E_size : ∀ pc x, m_E_size.2.2.2.2 pc = some x → decode m_E_size.2.1 pc = .ok x := jt_k (by decide +kernel)
theorem k_E_count : ∀ pc x, m_E_count.2.2.2.2 pc = some x → decode m_E_count.2.1 pc = .ok x := jt_k (by decide +kernel)
theorem k_E_isData : ∀ pc x, m_E_isData.2.2.2.2 pc = some x → decode m_E_isData.2.1 pc = .ok x := jt_k (by decide +kernel)
theorem k_E_keep : ∀ pc x, m_E_keep.2.2.2.2 pc = some x → decode m_E_keep.2.1 pc = .ok x := jt_k (by decide +kernel)
theorem k_E_templatesThere : ∀ pc x, m_E_templatesThere.2.2.2.2 pc = some x → decode m_E_templatesThere.2.1 pc = .ok x := jt_k (by decide +kernel)
theorem k_E_wouldHoldItself : ∀ pc x, m_E_wouldHoldItself.2.2.2.2 pc = some x → decode m_E_wouldHoldItself.2.1 pc = .ok x := jt_k (by decide +kernel)
theorem k_E_isWithin : ∀ pc x, m_E_isWithin.2.2.2.2 pc = some x → decode m_E_isWithin.2.1 pc = .ok x := jt_k (by decide +kernel)
theorem k_T_init : ∀ pc x, m_T_init.2.2.2.2 pc = some x → decode m_T_init.2.1 pc = .ok x := jt_k (by decide +kernel)
theorem k_T_clear : ∀ pc x, m_T_clear.2.2.2.2 pc = some x → decode m_T_clear.2.1 pc = .ok x := jt_k (by decide +kernel)
theorem k_T_append : ∀ pc x, m_T_append.2.2.2.2 pc = some x → decode m_T_append.2.1 pc = .ok x := jt_k (by decide +kernel)
theorem k_T_appendWord : ∀ pc x, m_T_appendWord.2.2.2.2 pc = some x → decode m_T_appendWord.2.1 pc = .ok x := jt_k (by decide +kernel)
theorem k_T_appendText : ∀ pc x, m_T_appendText.2.2.2.2 pc = some x → decode m_T_appendText.2.1 pc = .ok x := jt_k (by decide +kernel)
theorem k_T_appendEscaped : ∀ pc x, m_T_appendEscaped.2.2.2.2 pc = some x → decode m_T_appendEscaped.2.1 pc = .ok x := jt_k (by decide +kernel)
theorem k_T_appendNumber : ∀ pc x, m_T_appendNumber.2.2.2.2 pc = some x → decode m_T_appendNumber.2.1 pc = .ok x := jt_k (by decide +kernel)
theorem k_T_raiseLetters : ∀ pc x, m_T_raiseLetters.2.2.2.2 pc = some x → decode m_T_raiseLetters.2.1 pc = .ok x := jt_k (by decide +kernel)
theorem k_T_copyOf : ∀ pc x, m_T_copyOf.2.2.2.2 pc = some x → decode m_T_copyOf.2.1 pc = .ok x := jt_k (by decide +kernel)
theorem k_T_isLike : ∀ pc x, m_T_isLike.2.2.2.2 pc = some x → decode m_T_isLike.2.1 pc = .ok x := jt_k (by decide +kernel)
theorem k_T_hasWord : ∀ pc x, m_T_hasWord.2.2.2.2 pc = some x → decode m_T_hasWord.2.1 pc = .ok x := jt_k (by decide +kernel)
theorem k_T_find : ∀ pc x, m_T_find.2.2.2.2 pc = some x → decode m_T_find.2.1 pc = .ok x := jt_k (by decide +kernel)
theorem k_T_nameCode : ∀ pc x, m_T_nameCode.2.2.2.2 pc = some x → decode m_T_nameCode.2.1 pc = .ok x := jt_k (by decide +kernel)
theorem k_V_init : ∀ pc x, m_V_init.2.2.2.2 pc = some x → decode m_V_init.2.1 pc = .ok x := jt_k (by decide +kernel)
theorem k_V_ofNumber : ∀ pc x, m_V_ofNumber.2.2.2.2 pc = some x → decode m_V_ofNumber.2.1 pc = .ok x := jt_k (by decide +kernel)
theorem k_V_ofText : ∀ pc x, m_V_ofText.2.2.2.2 pc = some x → decode m_V_ofText.2.1 pc = .ok x := jt_k (by decide +kernel)
theorem k_V_ofEntries : ∀ pc x, m_V_ofEntries.2.2.2.2 pc = some x → decode m_V_ofEntries.2.1 pc = .ok x := jt_k (by decide +kernel)
theorem k_V_becomeNumber : ∀ pc x, m_V_becomeNumber.2.2.2.2 pc = some x → decode m_V_becomeNumber.2.1 pc = .ok x := jt_k (by decide +kernel)
theorem k_V_setEntry : ∀ pc x, m_V_setEntry.2.2.2.2 pc = some x → decode m_V_setEntry.2.1 pc = .ok x := jt_k (by decide +kernel)
theorem k_V_placeOf : ∀ pc x, m_V_placeOf.2.2.2.2 pc = some x → decode m_V_placeOf.2.1 pc = .ok x := jt_k (by decide +kernel)
theorem k_V_entryNamed : ∀ pc x, m_V_entryNamed.2.2.2.2 pc = some x → decode m_V_entryNamed.2.1 pc = .ok x := jt_k (by decide +kernel)
theorem k_V_elementAt : ∀ pc x, m_V_elementAt.2.2.2.2 pc = some x → decode m_V_elementAt.2.1 pc = .ok x := jt_k (by decide +kernel)
theorem k_V_isFalse : ∀ pc x, m_V_isFalse.2.2.2.2 pc = some x → decode m_V_isFalse.2.1 pc = .ok x := jt_k (by decide +kernel)
theorem k_V_measure : ∀ pc x, m_V_measure.2.2.2.2 pc = some x → decode m_V_measure.2.1 pc = .ok x := jt_k (by decide +kernel)
theorem k_R_init : ∀ pc x, m_R_init.2.2.2.2 pc = some x → decode m_R_init.2.1 pc = .ok x := jt_k (by decide +kernel)
theorem k_R_run : ∀ pc x, m_R_run.2.2.2.2 pc = some x → decode m_R_run.2.1 pc = .ok x := jt_k (by decide +kernel)
theorem k_R_renderParts : ∀ pc x, m_R_renderParts.2.2.2.2 pc = some x → decode m_R_renderParts.2.1 pc = .ok x := jt_k (by decide +kernel)
theorem k_R_meetTag : ∀ pc x, m_R_meetTag.2.2.2.2 pc = some x → decode m_R_meetTag.2.1 pc = .ok x := jt_k (by decide +kernel)
theorem k_R_renderPartial : ∀ pc x, m_R_renderPartial.2.2.2.2 pc = some x → decode m_R_renderPartial.2.1 pc = .ok x := jt_k (by decide +kernel)
theorem k_R_renderBlock : ∀ pc x, m_R_renderBlock.2.2.2.2 pc = some x → decode m_R_renderBlock.2.1 pc = .ok x := jt_k (by decide +kernel)
theorem k_R_renderEach : ∀ pc x, m_R_renderEach.2.2.2.2 pc = some x → decode m_R_renderEach.2.1 pc = .ok x := jt_k (by decide +kernel)
theorem k_R_evaluate : ∀ pc x, m_R_evaluate.2.2.2.2 pc = some x → decode m_R_evaluate.2.1 pc = .ok x := jt_k (by decide +kernel)
theorem k_R_valueOf : ∀ pc x, m_R_valueOf.2.2.2.2 pc = some x → decode m_R_valueOf.2.1 pc = .ok x := jt_k (by decide +kernel)
theorem k_R_follow : ∀ pc x, m_R_follow.2.2.2.2 pc = some x → decode m_R_follow.2.1 pc = .ok x := jt_k (by decide +kernel)
theorem k_R_showEscaped : ∀ pc x, m_R_showEscaped.2.2.2.2 pc = some x → decode m_R_showEscaped.2.1 pc = .ok x := jt_k (by decide +kernel)
theorem k_R_showRaw : ∀ pc x, m_R_showRaw.2.2.2.2 pc = some x → decode m_R_showRaw.2.1 pc = .ok x := jt_k (by decide +kernel)
theorem k_R_isFalse : ∀ pc x, m_R_isFalse.2.2.2.2 pc = some x → decode m_R_isFalse.2.1 pc = .ok x := jt_k (by decide +kernel)
theorem k_R_isNumber : ∀ pc x, m_R_isNumber.2.2.2.2 pc = some x → decode m_R_isNumber.2.1 pc = .ok x := jt_k (by decide +kernel)
theorem k_P_init : ∀ pc x, m_P_init.2.2.2.2 pc = some x → decode m_P_init.2.1 pc = .ok x := jt_k (by decide +kernel)
theorem k_P_takeApart : ∀ pc x, m_P_takeApart.2.2.2.2 pc = some x → decode m_P_takeApart.2.1 pc = .ok x := jt_k (by decide +kernel)
theorem k_P_attachPlain : ∀ pc x, m_P_attachPlain.2.2.2.2 pc = some x → decode m_P_attachPlain.2.1 pc = .ok x := jt_k (by decide +kernel)
theorem k_P_attach : ∀ pc x, m_P_attach.2.2.2.2 pc = some x → decode m_P_attach.2.1 pc = .ok x := jt_k (by decide +kernel)
theorem k_P_takeIn : ∀ pc x, m_P_takeIn.2.2.2.2 pc = some x → decode m_P_takeIn.2.1 pc = .ok x := jt_k (by decide +kernel)
theorem k_P_beginBlock : ∀ pc x, m_P_beginBlock.2.2.2.2 pc = some x → decode m_P_beginBlock.2.1 pc = .ok x := jt_k (by decide +kernel)
theorem k_P_beginOther : ∀ pc x, m_P_beginOther.2.2.2.2 pc = some x → decode m_P_beginOther.2.1 pc = .ok x := jt_k (by decide +kernel)
theorem k_P_endBlock : ∀ pc x, m_P_endBlock.2.2.2.2 pc = some x → decode m_P_endBlock.2.1 pc = .ok x := jt_k (by decide +kernel)
theorem k_P_readSort : ∀ pc x, m_P_readSort.2.2.2.2 pc = some x → decode m_P_readSort.2.1 pc = .ok x := jt_k (by decide +kernel)
theorem k_P_readRest : ∀ pc x, m_P_readRest.2.2.2.2 pc = some x → decode m_P_readRest.2.1 pc = .ok x := jt_k (by decide +kernel)
theorem k_P_readExpression : ∀ pc x, m_P_readExpression.2.2.2.2 pc = some x → decode m_P_readExpression.2.1 pc = .ok x := jt_k (by decide +kernel)
theorem k_P_readHelper : ∀ pc x, m_P_readHelper.2.2.2.2 pc = some x → decode m_P_readHelper.2.1 pc = .ok x := jt_k (by decide +kernel)
theorem k_P_readOperand : ∀ pc x, m_P_readOperand.2.2.2.2 pc = some x → decode m_P_readOperand.2.1 pc = .ok x := jt_k (by decide +kernel)
theorem k_P_readNumber : ∀ pc x, m_P_readNumber.2.2.2.2 pc = some x → decode m_P_readNumber.2.1 pc = .ok x := jt_k (by decide +kernel)
theorem k_P_readQuoted : ∀ pc x, m_P_readQuoted.2.2.2.2 pc = some x → decode m_P_readQuoted.2.1 pc = .ok x := jt_k (by decide +kernel)
theorem k_P_readPath : ∀ pc x, m_P_readPath.2.2.2.2 pc = some x → decode m_P_readPath.2.1 pc = .ok x := jt_k (by decide +kernel)
theorem k_P_readName : ∀ pc x, m_P_readName.2.2.2.2 pc = some x → decode m_P_readName.2.1 pc = .ok x := jt_k (by decide +kernel)
theorem k_P_isDigitNext : ∀ pc x, m_P_isDigitNext.2.2.2.2 pc = some x → decode m_P_isDigitNext.2.1 pc = .ok x := jt_k (by decide +kernel)
theorem k_P_readDigit : ∀ pc x, m_P_readDigit.2.2.2.2 pc = some x → decode m_P_readDigit.2.1 pc = .ok x := jt_k (by decide +kernel)
theorem k_P_accept : ∀ pc x, m_P_accept.2.2.2.2 pc = some x → decode m_P_accept.2.1 pc = .ok x := jt_k (by decide +kernel)
theorem k_P_isInside : ∀ pc x, m_P_isInside.2.2.2.2 pc = some x → decode m_P_isInside.2.1 pc = .ok x := jt_k (by decide +kernel)
theorem k_N_init : ∀ pc x, m_N_init.2.2.2.2 pc = some x → decode m_N_init.2.1 pc = .ok x := jt_k (by decide +kernel)
theorem k_X_init : ∀ pc x, m_X_init.2.2.2.2 pc = some x → decode m_X_init.2.1 pc = .ok x := jt_k (by decide +kernel)
theorem k_O_init : ∀ pc x, m_O_init.2.2.2.2 pc = some x → decode m_O_init.2.1 pc = .ok x := jt_k (by decide +kernel)
end
section
/-! the instructions are the code's -/
theorem k_M_init : ∀ pc x, m_M_init.2.2.2.2 pc = some x → decode m_M_init.2.1 pc = .ok x := jt_k (by decide +kernel)
theorem k_M_thrown : ∀ pc x, m_M_thrown.2.2.2.2 pc = some x → decode m_M_thrown.2.1 pc = .ok x := jt_k (by decide +kernel)
theorem k_M_refuse : ∀ pc x, m_M_refuse.2.2.2.2 pc = some x → decode m_M_refuse.2.1 pc = .ok x := jt_k (by decide +kernel)
theorem k_M_fine : ∀ pc x, m_M_fine.2.2.2.2 pc = some x → decode m_M_fine.2.1 pc = .ok x := jt_k (by decide +kernel)
theorem k_M_type : ∀ pc x, m_M_type.2.2.2.2 pc = some x → decode m_M_type.2.1 pc = .ok x := jt_k (by decide +kernel)
theorem k_M_make : ∀ pc x, m_M_make.2.2.2.2 pc = some x → decode m_M_make.2.1 pc = .ok x := jt_k (by decide +kernel)
theorem k_M_number : ∀ pc x, m_M_number.2.2.2.2 pc = some x → decode m_M_number.2.1 pc = .ok x := jt_k (by decide +kernel)
theorem k_M_text : ∀ pc x, m_M_text.2.2.2.2 pc = some x → decode m_M_text.2.1 pc = .ok x := jt_k (by decide +kernel)
theorem k_M_list : ∀ pc x, m_M_list.2.2.2.2 pc = some x → decode m_M_list.2.1 pc = .ok x := jt_k (by decide +kernel)
theorem k_M_map : ∀ pc x, m_M_map.2.2.2.2 pc = some x → decode m_M_map.2.1 pc = .ok x := jt_k (by decide +kernel)
theorem k_M_no : ∀ pc x, m_M_no.2.2.2.2 pc = some x → decode m_M_no.2.1 pc = .ok x := jt_k (by decide +kernel)
theorem k_M_holds : ∀ pc x, m_M_holds.2.2.2.2 pc = some x → decode m_M_holds.2.1 pc = .ok x := jt_k (by decide +kernel)
theorem k_M_add : ∀ pc x, m_M_add.2.2.2.2 pc = some x → decode m_M_add.2.1 pc = .ok x := jt_k (by decide +kernel)
theorem k_M_letter : ∀ pc x, m_M_letter.2.2.2.2 pc = some x → decode m_M_letter.2.1 pc = .ok x := jt_k (by decide +kernel)
theorem k_M_lineName : ∀ pc x, m_M_lineName.2.2.2.2 pc = some x → decode m_M_lineName.2.1 pc = .ok x := jt_k (by decide +kernel)
theorem k_M_find : ∀ pc x, m_M_find.2.2.2.2 pc = some x → decode m_M_find.2.1 pc = .ok x := jt_k (by decide +kernel)
theorem k_M_put : ∀ pc x, m_M_put.2.2.2.2 pc = some x → decode m_M_put.2.1 pc = .ok x := jt_k (by decide +kernel)
theorem k_M_at0 : ∀ pc x, m_M_at0.2.2.2.2 pc = some x → decode m_M_at0.2.1 pc = .ok x := jt_k (by decide +kernel)
theorem k_M_stands : ∀ pc x, m_M_stands.2.2.2.2 pc = some x → decode m_M_stands.2.1 pc = .ok x := jt_k (by decide +kernel)
theorem k_M_letters : ∀ pc x, m_M_letters.2.2.2.2 pc = some x → decode m_M_letters.2.1 pc = .ok x := jt_k (by decide +kernel)
theorem k_M_digit : ∀ pc x, m_M_digit.2.2.2.2 pc = some x → decode m_M_digit.2.1 pc = .ok x := jt_k (by decide +kernel)
theorem k_M_pathEnd : ∀ pc x, m_M_pathEnd.2.2.2.2 pc = some x → decode m_M_pathEnd.2.1 pc = .ok x := jt_k (by decide +kernel)
theorem k_M_operandEnd : ∀ pc x, m_M_operandEnd.2.2.2.2 pc = some x → decode m_M_operandEnd.2.1 pc = .ok x := jt_k (by decide +kernel)
theorem k_M_helper : ∀ pc x, m_M_helper.2.2.2.2 pc = some x → decode m_M_helper.2.1 pc = .ok x := jt_k (by decide +kernel)
theorem k_M_nameSize : ∀ pc x, m_M_nameSize.2.2.2.2 pc = some x → decode m_M_nameSize.2.1 pc = .ok x := jt_k (by decide +kernel)
theorem k_M_isExpr : ∀ pc x, m_M_isExpr.2.2.2.2 pc = some x → decode m_M_isExpr.2.1 pc = .ok x := jt_k (by decide +kernel)
theorem k_M_sortOf : ∀ pc x, m_M_sortOf.2.2.2.2 pc = some x → decode m_M_sortOf.2.1 pc = .ok x := jt_k (by decide +kernel)
theorem k_M_takeTag : ∀ pc x, m_M_takeTag.2.2.2.2 pc = some x → decode m_M_takeTag.2.1 pc = .ok x := jt_k (by decide +kernel)
theorem k_M_fit : ∀ pc x, m_M_fit.2.2.2.2 pc = some x → decode m_M_fit.2.1 pc = .ok x := jt_k (by decide +kernel)
theorem k_M_takeApart : ∀ pc x, m_M_takeApart.2.2.2.2 pc = some x → decode m_M_takeApart.2.1 pc = .ok x := jt_k (by decide +kernel)
theorem k_M_moved : ∀ pc x, m_M_moved.2.2.2.2 pc = some x → decode m_M_moved.2.1 pc = .ok x := jt_k (by decide +kernel)
theorem k_M_compile : ∀ pc x, m_M_compile.2.2.2.2 pc = some x → decode m_M_compile.2.1 pc = .ok x := jt_k (by decide +kernel)
theorem k_M_errorAt : ∀ pc x, m_M_errorAt.2.2.2.2 pc = some x → decode m_M_errorAt.2.1 pc = .ok x := jt_k (by decide +kernel)
theorem k_M_nothing : ∀ pc x, m_M_nothing.2.2.2.2 pc = some x → decode m_M_nothing.2.1 pc = .ok x := jt_k (by decide +kernel)
theorem k_M_setNumber : ∀ pc x, m_M_setNumber.2.2.2.2 pc = some x → decode m_M_setNumber.2.1 pc = .ok x := jt_k (by decide +kernel)
theorem k_M_dataLetter : ∀ pc x, m_M_dataLetter.2.2.2.2 pc = some x → decode m_M_dataLetter.2.1 pc = .ok x := jt_k (by decide +kernel)
theorem k_M_load : ∀ pc x, m_M_load.2.2.2.2 pc = some x → decode m_M_load.2.1 pc = .ok x := jt_k (by decide +kernel)
theorem k_M_copy : ∀ pc x, m_M_copy.2.2.2.2 pc = some x → decode m_M_copy.2.1 pc = .ok x := jt_k (by decide +kernel)
theorem k_M_rawPut : ∀ pc x, m_M_rawPut.2.2.2.2 pc = some x → decode m_M_rawPut.2.1 pc = .ok x := jt_k (by decide +kernel)
theorem k_M_rawNumber : ∀ pc x, m_M_rawNumber.2.2.2.2 pc = some x → decode m_M_rawNumber.2.1 pc = .ok x := jt_k (by decide +kernel)
theorem k_M_rawMap : ∀ pc x, m_M_rawMap.2.2.2.2 pc = some x → decode m_M_rawMap.2.1 pc = .ok x := jt_k (by decide +kernel)
theorem k_M_rawData : ∀ pc x, m_M_rawData.2.2.2.2 pc = some x → decode m_M_rawData.2.1 pc = .ok x := jt_k (by decide +kernel)
theorem k_M_showRaw : ∀ pc x, m_M_showRaw.2.2.2.2 pc = some x → decode m_M_showRaw.2.1 pc = .ok x := jt_k (by decide +kernel)
theorem k_M_lengthOf : ∀ pc x, m_M_lengthOf.2.2.2.2 pc = some x → decode m_M_lengthOf.2.1 pc = .ok x := jt_k (by decide +kernel)
theorem k_M_isFalse : ∀ pc x, m_M_isFalse.2.2.2.2 pc = some x → decode m_M_isFalse.2.1 pc = .ok x := jt_k (by decide +kernel)
theorem k_M_element : ∀ pc x, m_M_element.2.2.2.2 pc = some x → decode m_M_element.2.1 pc = .ok x := jt_k (by decide +kernel)
theorem k_M_member : ∀ pc x, m_M_member.2.2.2.2 pc = some x → decode m_M_member.2.1 pc = .ok x := jt_k (by decide +kernel)
theorem k_M_loop : ∀ pc x, m_M_loop.2.2.2.2 pc = some x → decode m_M_loop.2.1 pc = .ok x := jt_k (by decide +kernel)
theorem k_M_path : ∀ pc x, m_M_path.2.2.2.2 pc = some x → decode m_M_path.2.1 pc = .ok x := jt_k (by decide +kernel)
theorem k_M_operand : ∀ pc x, m_M_operand.2.2.2.2 pc = some x → decode m_M_operand.2.1 pc = .ok x := jt_k (by decide +kernel)
theorem k_M_upper : ∀ pc x, m_M_upper.2.2.2.2 pc = some x → decode m_M_upper.2.1 pc = .ok x := jt_k (by decide +kernel)
theorem k_M_alike : ∀ pc x, m_M_alike.2.2.2.2 pc = some x → decode m_M_alike.2.1 pc = .ok x := jt_k (by decide +kernel)
theorem k_M_expr : ∀ pc x, m_M_expr.2.2.2.2 pc = some x → decode m_M_expr.2.1 pc = .ok x := jt_k (by decide +kernel)
theorem k_M_emit : ∀ pc x, m_M_emit.2.2.2.2 pc = some x → decode m_M_emit.2.1 pc = .ok x := jt_k (by decide +kernel)
theorem k_M_emitWord : ∀ pc x, m_M_emitWord.2.2.2.2 pc = some x → decode m_M_emitWord.2.1 pc = .ok x := jt_k (by decide +kernel)
theorem k_M_show : ∀ pc x, m_M_show.2.2.2.2 pc = some x → decode m_M_show.2.1 pc = .ok x := jt_k (by decide +kernel)
theorem k_M_push : ∀ pc x, m_M_push.2.2.2.2 pc = some x → decode m_M_push.2.1 pc = .ok x := jt_k (by decide +kernel)
theorem k_M_nextTurn : ∀ pc x, m_M_nextTurn.2.2.2.2 pc = some x → decode m_M_nextTurn.2.1 pc = .ok x := jt_k (by decide +kernel)
theorem k_M_block : ∀ pc x, m_M_block.2.2.2.2 pc = some x → decode m_M_block.2.1 pc = .ok x := jt_k (by decide +kernel)
theorem k_M_ends : ∀ pc x, m_M_ends.2.2.2.2 pc = some x → decode m_M_ends.2.1 pc = .ok x := jt_k (by decide +kernel)
theorem k_M_partial : ∀ pc x, m_M_partial.2.2.2.2 pc = some x → decode m_M_partial.2.1 pc = .ok x := jt_k (by decide +kernel)
theorem k_M_underTemplates : ∀ pc x, m_M_underTemplates.2.2.2.2 pc = some x → decode m_M_underTemplates.2.1 pc = .ok x := jt_k (by decide +kernel)
theorem k_M_here : ∀ pc x, m_M_here.2.2.2.2 pc = some x → decode m_M_here.2.1 pc = .ok x := jt_k (by decide +kernel)
theorem k_M_tag : ∀ pc x, m_M_tag.2.2.2.2 pc = some x → decode m_M_tag.2.1 pc = .ok x := jt_k (by decide +kernel)
theorem k_M_tagFrom : ∀ pc x, m_M_tagFrom.2.2.2.2 pc = some x → decode m_M_tagFrom.2.1 pc = .ok x := jt_k (by decide +kernel)
theorem k_M_go : ∀ pc x, m_M_go.2.2.2.2 pc = some x → decode m_M_go.2.1 pc = .ok x := jt_k (by decide +kernel)
theorem k_M_render : ∀ pc x, m_M_render.2.2.2.2 pc = some x → decode m_M_render.2.1 pc = .ok x := jt_k (by decide +kernel)
theorem k_M_at : ∀ pc x, m_M_at.2.2.2.2 pc = some x → decode m_M_at.2.1 pc = .ok x := jt_k (by decide +kernel)
theorem k_M_kind : ∀ pc x, m_M_kind.2.2.2.2 pc = some x → decode m_M_kind.2.1 pc = .ok x := jt_k (by decide +kernel)
theorem k_M_size : ∀ pc x, m_M_size.2.2.2.2 pc = some x → decode m_M_size.2.1 pc = .ok x := jt_k (by decide +kernel)
theorem k_M_count : ∀ pc x, m_M_count.2.2.2.2 pc = some x → decode m_M_count.2.1 pc = .ok x := jt_k (by decide +kernel)
end
section
/-! SHORTER RULES: keys as numbers, locals as lists written out -/
def lo_b1 (ls : List (Option jV)) (i : Nat) : Bool := match i with
  | 0 => true
  | j + 1 => match ls[j]? with
    | some (some (.inr (.inl _))) => false
    | _ => true
theorem lo_ok {ls : List (Option jV)} {i : Nat} (h : lo_b1 ls i = true) : lo_c1 ls i := by
  intro j w e hw
  subst e
  rcases w with x | x | r
  · rfl
  · simp [lo_b1, hw] at h
  · rfl
def jl_gi (own : String) (idx ci n : Nat) : Prop := ∃ k, jl_f own idx ci k ∧ jc_so (jc_ty ci k) = 0 ∧ 64 * ci + k = n
def jl_gr (own : String) (idx ci n : Nat) : Prop := ∃ k, jl_f own idx ci k ∧ jc_so (jc_ty ci k) = 2 ∧ 64 * ci + k = n
def jl_pi (M : jw_M) (idx ci n : Nat) : Prop := ∃ k, jl_f M.1.cls idx ci k ∧ jl_fin M ci k ∧ jl_w M idx ci k ∧ jc_ty ci k = .int ∧ 64 * ci + k = n
def jl_pz (M : jw_M) (idx ci n : Nat) : Prop := ∃ k, jl_f M.1.cls idx ci k ∧ jl_fin M ci k ∧ jl_w M idx ci k ∧ jc_ty ci k = .boolean ∧ 64 * ci + k = n
def jl_pr (M : jw_M) (idx ci n : Nat) : Prop := ∃ k, jl_f M.1.cls idx ci k ∧ jl_fin M ci k ∧ jl_w M idx ci k ∧ ((∃ C, jc_ty ci k = .object C) ∨ ∃ t, jc_ty ci k = .array t) ∧ 64 * ci + k = n
section JWS
variable {g : jg_G} {d : Nat} {M : jw_M} {T : Code → Prop} {pc : Nat} {ls ls' : List (Option jV)} {st : List jV} {h : jh_H} {kc ks : Nat} {Q : jw_O → jh_H → Prop}
theorem jw_gi {idx ci n a : Nat} {x : Int32} (hd : M.2.2.2.2 pc = some (.getfield idx, 3)) (hf : jl_gi M.1.cls idx ci n) (ho : jh_O h a ci) (hv : jh_i h a n = x) (kk : jw_J g d M T (pc + 3) ls (.inl x :: st) h kc ks Q) : jw_J g d M T pc ls (.inr (.inr (some a)) :: st) h kc ks Q := by
  obtain ⟨k, hf, ht, rfl⟩ := hf
  subst hv
  exact jw_geti hd hf ht ho kk
theorem jw_gr {idx ci n a : Nat} {r : Option Nat} (hd : M.2.2.2.2 pc = some (.getfield idx, 3)) (hf : jl_gr M.1.cls idx ci n) (ho : jh_O h a ci) (hv : jh_r h a n = r) (kk : jw_J g d M T (pc + 3) ls (.inr (.inr r) :: st) h kc ks Q) : jw_J g d M T pc ls (.inr (.inr (some a)) :: st) h kc ks Q := by
  obtain ⟨k, hf, ht, rfl⟩ := hf
  subst hv
  exact jw_getr hd hf ht ho kk
theorem jw_pi {idx ci n a : Nat} {x : Int32} (hd : M.2.2.2.2 pc = some (.putfield idx, 3)) (hf : jl_pi M idx ci n) (ho : jh_O h a ci) (kk : jw_J g d M T (pc + 3) ls st (jh_si h a n x) kc ks Q) : jw_J g d M T pc ls (.inl x :: .inr (.inr (some a)) :: st) h kc ks Q := by
  obtain ⟨k, hf, h1, h2, ht, rfl⟩ := hf
  exact jw_puti hd hf h1 h2 (by rw [ht]; rfl) (by rw [ht]; rfl) (by rw [ht]; rfl) ho kk
theorem jw_pz {idx ci n a : Nat} {x : Int32} (hd : M.2.2.2.2 pc = some (.putfield idx, 3)) (hf : jl_pz M idx ci n) (hx : x = 0 ∨ x = 1) (ho : jh_O h a ci) (kk : jw_J g d M T (pc + 3) ls st (jh_si h a n x) kc ks Q) : jw_J g d M T pc ls (.inl x :: .inr (.inr (some a)) :: st) h kc ks Q := by
  obtain ⟨k, hf, h1, h2, ht, rfl⟩ := hf
  rcases hx with rfl | rfl
  · exact jw_puti hd hf h1 h2 (by rw [ht]; rfl) (by rw [ht]; rfl) (by rw [ht]; rfl) ho kk
  · exact jw_puti hd hf h1 h2 (by rw [ht]; rfl) (by rw [ht]; rfl) (by rw [ht]; rfl) ho kk
theorem jw_pr {idx ci n a : Nat} {r : Option Nat} (hd : M.2.2.2.2 pc = some (.putfield idx, 3)) (hf : jl_pr M idx ci n) (ho : jh_O h a ci) (kk : jw_J g d M T (pc + 3) ls st (jh_sr h a n r) kc ks Q) : jw_J g d M T pc ls (.inr (.inr r) :: .inr (.inr (some a)) :: st) h kc ks Q := by
  obtain ⟨k, hf, h1, h2, ht, rfl⟩ := hf
  rcases ht with ⟨C, ht⟩ | ⟨t, ht⟩
  · exact jw_putr hd hf h1 h2 (by rw [ht]; rfl) (fun r => by rw [ht]; cases r <;> rfl) (fun r => by rw [ht]; cases r <;> rfl) ho kk
  · exact jw_putr hd hf h1 h2 (by rw [ht]; rfl) (fun r => by rw [ht]; cases r <;> rfl) (fun r => by rw [ht]; cases r <;> rfl) ho kk
theorem js_alen {a t n : Nat} (hd : M.2.2.2.2 pc = some (.arraylength, 1)) (ho : jh_A h a t n) (ht : t < jc_an) (kk : jw_J g d M T (pc + 1) ls (.inl (nI n) :: st) h kc ks Q) : jw_J g d M T pc ls (.inr (.inr (some a)) :: st) h kc ks Q := jw_alen hd ht ho kk
theorem js_cald {a t n : Nat} {i : Int32} (j : Nat) (hd : M.2.2.2.2 pc = some (.caload, 1)) (ho : jh_A h a t n) (ht : t < jc_an) (hty : jc_at t = .char) (hi : i = nI j) (hj : j < n) (hn : n < 2 ^ 31) (kk : jw_J g d M T (pc + 1) ls (.inl (jh_I h a j) :: st) h kc ks Q) : jw_J g d M T pc ls (.inl i :: .inr (.inr (some a)) :: st) h kc ks Q := jw_cald j hd ht hty ho hi hj hn kk
theorem js_iald {a t n : Nat} {i : Int32} (j : Nat) (hd : M.2.2.2.2 pc = some (.iaload, 1)) (ho : jh_A h a t n) (ht : t < jc_an) (hty : jc_at t = .int) (hi : i = nI j) (hj : j < n) (hn : n < 2 ^ 31) (kk : jw_J g d M T (pc + 1) ls (.inl (jh_I h a j) :: st) h kc ks Q) : jw_J g d M T pc ls (.inl i :: .inr (.inr (some a)) :: st) h kc ks Q := jw_iald j hd ht hty ho hi hj hn kk
theorem js_lald {a t n : Nat} {i : Int32} (j : Nat) (hd : M.2.2.2.2 pc = some (.laload, 1)) (ho : jh_A h a t n) (ht : t < jc_an) (hty : jc_at t = .long) (hi : i = nI j) (hj : j < n) (hn : n < 2 ^ 31) (kk : jw_J g d M T (pc + 1) ls (.inr (.inl (jh_G h a j)) :: st) h kc ks Q) : jw_J g d M T pc ls (.inl i :: .inr (.inr (some a)) :: st) h kc ks Q := jw_lald j hd ht hty ho hi hj hn kk
theorem js_aald {a t n : Nat} {i : Int32} {C : String} {r : Option Nat} (j : Nat) (hd : M.2.2.2.2 pc = some (.aaload, 1)) (ho : jh_A h a t n) (ht : t < jc_an) (hty : jc_at t = .object C) (hi : i = nI j) (hj : j < n) (hn : n < 2 ^ 31) (hv : jh_R h a j = r) (kk : jw_J g d M T (pc + 1) ls (.inr (.inr r) :: st) h kc ks Q) : jw_J g d M T pc ls (.inl i :: .inr (.inr (some a)) :: st) h kc ks Q := jw_aald j hd ht hty ho hi hj hn (by rw [hv]; exact kk)
theorem js_cast {a t n : Nat} {i x : Int32} (j : Nat) (hd : M.2.2.2.2 pc = some (.castore, 1)) (ho : jh_A h a t n) (ht : t < jc_an) (hty : jc_at t = .char) (hi : i = nI j) (hj : j < n) (hn : n < 2 ^ 31) (kk : jw_J g d M T (pc + 1) ls st (jh_sI h a j (vp_nar .char x)) kc ks Q) : jw_J g d M T pc ls (.inl x :: .inl i :: .inr (.inr (some a)) :: st) h kc ks Q := jw_cast j hd ht hty ho hi hj hn kk
theorem js_iast {a t n : Nat} {i x : Int32} (j : Nat) (hd : M.2.2.2.2 pc = some (.iastore, 1)) (ho : jh_A h a t n) (ht : t < jc_an) (hty : jc_at t = .int) (hi : i = nI j) (hj : j < n) (hn : n < 2 ^ 31) (kk : jw_J g d M T (pc + 1) ls st (jh_sI h a j x) kc ks Q) : jw_J g d M T pc ls (.inl x :: .inl i :: .inr (.inr (some a)) :: st) h kc ks Q := jw_iast j hd ht hty ho hi hj hn kk
theorem js_last {a t n : Nat} {i : Int32} {x : Int64} (j : Nat) (hd : M.2.2.2.2 pc = some (.lastore, 1)) (ho : jh_A h a t n) (ht : t < jc_an) (hty : jc_at t = .long) (hi : i = nI j) (hj : j < n) (hn : n < 2 ^ 31) (kk : jw_J g d M T (pc + 1) ls st (jh_sG h a j x) kc ks Q) : jw_J g d M T pc ls (.inr (.inl x) :: .inl i :: .inr (.inr (some a)) :: st) h kc ks Q := jw_last j hd ht hty ho hi hj hn kk
theorem js_aast {a t n v ci : Nat} {i : Int32} (j : Nat) (hd : M.2.2.2.2 pc = some (.aastore, 1)) (ho : jh_A h a t n) (hv : jh_O h v ci) (ht : t < jc_an) (hcq : jc_ok ci) (hty : jc_at t = .object (jc_q ci).1) (hi : i = nI j) (hj : j < n) (hn : n < 2 ^ 31) (kk : jw_J g d M T (pc + 1) ls st (jh_sR h a j (some v)) kc ks Q) : jw_J g d M T pc ls (.inr (.inr (some v)) :: .inl i :: .inr (.inr (some a)) :: st) h kc ks Q := jw_aast j hd ht hcq hty ho hv hi hj hn kk
theorem js_istore_n {k : Fin 4} {x : Int32} (hd : M.2.2.2.2 pc = some (.istore_n k, 1)) (hp : lo_b1 ls (k : Nat) = true) (hn : (k : Nat) < M.2.2.1) (hs : ls.set (k : Nat) (some (.inl x)) = ls') (k : jw_J g d M T (pc + 1) ls' st h kc ks Q) : jw_J g d M T pc ls ((.inl x) :: st) h kc ks Q := jw_istore_n hd (lo_ok hp) hn (by rw [hs]; exact k)
theorem js_astore_n {k : Fin 4} {r : Option Nat} (hd : M.2.2.2.2 pc = some (.astore_n k, 1)) (hp : lo_b1 ls (k : Nat) = true) (hn : (k : Nat) < M.2.2.1) (hs : ls.set (k : Nat) (some (.inr (.inr r))) = ls') (k : jw_J g d M T (pc + 1) ls' st h kc ks Q) : jw_J g d M T pc ls ((.inr (.inr r)) :: st) h kc ks Q := jw_astore_n hd (lo_ok hp) hn (by rw [hs]; exact k)
theorem js_lstore_n {k : Fin 4} {x : Int64} (hd : M.2.2.2.2 pc = some (.lstore_n k, 1)) (hp : lo_b1 ls (k : Nat) = true) (hn : (k : Nat) + 1 < M.2.2.1) (hs : (ls.set ((k : Nat) + 1) none).set (k : Nat) (some (.inr (.inl x))) = ls') (k : jw_J g d M T (pc + 1) ls' st h kc ks Q) : jw_J g d M T pc ls (.inr (.inl x) :: st) h kc ks Q := jw_lstore_n hd (lo_ok hp) hn (by rw [hs]; exact k)
theorem js_istore {i : Nat} {x : Int32} (hd : M.2.2.2.2 pc = some (.istore i, 2)) (hp : lo_b1 ls i = true) (hn : i < M.2.2.1) (hs : ls.set i (some (.inl x)) = ls') (k : jw_J g d M T (pc + 2) ls' st h kc ks Q) : jw_J g d M T pc ls ((.inl x) :: st) h kc ks Q := jw_istore hd (lo_ok hp) hn (by rw [hs]; exact k)
theorem js_astore {i : Nat} {r : Option Nat} (hd : M.2.2.2.2 pc = some (.astore i, 2)) (hp : lo_b1 ls i = true) (hn : i < M.2.2.1) (hs : ls.set i (some (.inr (.inr r))) = ls') (k : jw_J g d M T (pc + 2) ls' st h kc ks Q) : jw_J g d M T pc ls ((.inr (.inr r)) :: st) h kc ks Q := jw_astore hd (lo_ok hp) hn (by rw [hs]; exact k)
theorem js_lstore {i : Nat} {x : Int64} (hd : M.2.2.2.2 pc = some (.lstore i, 2)) (hp : lo_b1 ls i = true) (hn : i + 1 < M.2.2.1) (hs : (ls.set (i + 1) none).set i (some (.inr (.inl x))) = ls') (k : jw_J g d M T (pc + 2) ls' st h kc ks Q) : jw_J g d M T pc ls (.inr (.inl x) :: st) h kc ks Q := jw_lstore hd (lo_ok hp) hn (by rw [hs]; exact k)
theorem js_iinc {i : Nat} {n : Int} {x y : Int32} (hd : M.2.2.2.2 pc = some (.iinc i n, 3)) (hv : ls[i]? = some (some (.inl x))) (hy : x + Int32.ofInt n = y) (hp : lo_b1 ls i = true) (hn : i < M.2.2.1) (hs : ls.set i (some (.inl y)) = ls') (k : jw_J g d M T (pc + 3) ls' st h kc ks Q) : jw_J g d M T pc ls st h kc ks Q := jw_iinc hd hv (lo_ok hp) hn (by rw [hy, hs]; exact k)
theorem js_iconst {n : Int} {x : Int32} (hd : M.2.2.2.2 pc = some (.iconst n, 1)) (hx : Int32.ofInt n = x) (k : jw_J g d M T (pc + 1) ls (.inl x :: st) h kc ks Q) : jw_J g d M T pc ls st h kc ks Q := jw_iconst hd (by rw [hx]; exact k)
theorem js_bipush {n : Int} {x : Int32} (hd : M.2.2.2.2 pc = some (.bipush n, 2)) (hx : (Int8.ofInt n).toInt32 = x) (k : jw_J g d M T (pc + 2) ls (.inl x :: st) h kc ks Q) : jw_J g d M T pc ls st h kc ks Q := jw_bipush hd (by rw [hx]; exact k)
theorem js_sipush {n : Int} {x : Int32} (hd : M.2.2.2.2 pc = some (.sipush n, 3)) (hx : (Int16.ofInt n).toInt32 = x) (k : jw_J g d M T (pc + 3) ls (.inl x :: st) h kc ks Q) : jw_J g d M T pc ls st h kc ks Q := jw_sipush hd (by rw [hx]; exact k)
end JWS
end
section
theorem g_E_14 : jl_gr "TemplateEngine" 14 0 0 := ⟨0, f_E_14, rfl, rfl⟩
theorem g_E_20 : jl_gr "TemplateEngine" 20 0 1 := ⟨1, f_E_20, rfl, rfl⟩
theorem g_E_26 : jl_gr "TemplateEngine" 26 0 4 := ⟨4, f_E_26, rfl, rfl⟩
theorem g_E_30 : jl_gi "TemplateEngine" 30 0 5 := ⟨5, f_E_30, rfl, rfl⟩
theorem g_E_37 : jl_gr "TemplateEngine" 37 0 6 := ⟨6, f_E_37, rfl, rfl⟩
theorem g_E_41 : jl_gi "TemplateEngine" 41 0 7 := ⟨7, f_E_41, rfl, rfl⟩
theorem g_E_51 : jl_gi "TemplateEngine" 51 1 65 := ⟨1, f_E_51, rfl, rfl⟩
theorem g_E_63 : jl_gi "TemplateEngine" 63 0 2 := ⟨2, f_E_63, rfl, rfl⟩
theorem g_E_99 : jl_gi "TemplateEngine" 99 2 128 := ⟨0, f_E_99, rfl, rfl⟩
theorem g_E_108 : jl_gi "TemplateEngine" 108 2 133 := ⟨5, f_E_108, rfl, rfl⟩
theorem g_E_142 : jl_gi "TemplateEngine" 142 4 262 := ⟨6, f_E_142, rfl, rfl⟩
theorem g_E_145 : jl_gr "TemplateEngine" 145 4 257 := ⟨1, f_E_145, rfl, rfl⟩
theorem g_E_149 : jl_gi "TemplateEngine" 149 4 261 := ⟨5, f_E_149, rfl, rfl⟩
theorem g_E_158 : jl_gr "TemplateEngine" 158 3 199 := ⟨7, f_E_158, rfl, rfl⟩
theorem g_E_163 : jl_gr "TemplateEngine" 163 1 64 := ⟨0, f_E_163, rfl, rfl⟩
theorem g_E_174 : jl_gi "TemplateEngine" 174 3 204 := ⟨12, f_E_174, rfl, rfl⟩
theorem g_E_177 : jl_gi "TemplateEngine" 177 0 3 := ⟨3, f_E_177, rfl, rfl⟩
theorem g_E_184 : jl_gi "TemplateEngine" 184 2 134 := ⟨6, f_E_184, rfl, rfl⟩
theorem g_E_187 : jl_gr "TemplateEngine" 187 2 131 := ⟨3, f_E_187, rfl, rfl⟩
theorem g_X_7 : jl_gr "TemplateEngine$Expression" 7 6 384 := ⟨0, f_X_7, rfl, rfl⟩
theorem g_X_13 : jl_gr "TemplateEngine$Expression" 13 6 385 := ⟨1, f_X_13, rfl, rfl⟩
theorem g_X_17 : jl_gr "TemplateEngine$Expression" 17 6 386 := ⟨2, f_X_17, rfl, rfl⟩
theorem g_O_7 : jl_gr "TemplateEngine$Operand" 7 7 448 := ⟨0, f_O_7, rfl, rfl⟩
theorem g_N_7 : jl_gr "TemplateEngine$Part" 7 5 320 := ⟨0, f_N_7, rfl, rfl⟩
theorem g_N_13 : jl_gi "TemplateEngine$Part" 13 5 321 := ⟨1, f_N_13, rfl, rfl⟩
theorem g_R_11 : jl_gr "TemplateEngine$Renderer" 11 3 192 := ⟨0, f_R_11, rfl, rfl⟩
theorem g_R_17 : jl_gr "TemplateEngine$Renderer" 17 3 194 := ⟨2, f_R_17, rfl, rfl⟩
theorem g_R_24 : jl_gr "TemplateEngine$Renderer" 24 3 195 := ⟨3, f_R_24, rfl, rfl⟩
theorem g_R_33 : jl_gr "TemplateEngine$Renderer" 33 3 196 := ⟨4, f_R_33, rfl, rfl⟩
theorem g_R_37 : jl_gr "TemplateEngine$Renderer" 37 3 197 := ⟨5, f_R_37, rfl, rfl⟩
theorem g_R_40 : jl_gr "TemplateEngine$Renderer" 40 3 198 := ⟨6, f_R_40, rfl, rfl⟩
theorem g_R_43 : jl_gr "TemplateEngine$Renderer" 43 3 199 := ⟨7, f_R_43, rfl, rfl⟩
theorem g_R_50 : jl_gr "TemplateEngine$Renderer" 50 3 200 := ⟨8, f_R_50, rfl, rfl⟩
theorem g_R_57 : jl_gi "TemplateEngine$Renderer" 57 3 193 := ⟨1, f_R_57, rfl, rfl⟩
theorem g_R_61 : jl_gi "TemplateEngine$Renderer" 61 3 201 := ⟨9, f_R_61, rfl, rfl⟩
theorem g_R_64 : jl_gi "TemplateEngine$Renderer" 64 3 202 := ⟨10, f_R_64, rfl, rfl⟩
theorem g_R_67 : jl_gi "TemplateEngine$Renderer" 67 3 203 := ⟨11, f_R_67, rfl, rfl⟩
theorem g_R_70 : jl_gr "TemplateEngine$Renderer" 70 5 326 := ⟨6, f_R_70, rfl, rfl⟩
theorem g_R_80 : jl_gi "TemplateEngine$Renderer" 80 3 204 := ⟨12, f_R_80, rfl, rfl⟩
theorem g_R_89 : jl_gr "TemplateEngine$Renderer" 89 5 320 := ⟨0, f_R_89, rfl, rfl⟩
theorem g_R_99 : jl_gr "TemplateEngine$Renderer" 99 5 322 := ⟨2, f_R_99, rfl, rfl⟩
theorem g_R_109 : jl_gr "TemplateEngine$Renderer" 109 5 323 := ⟨3, f_R_109, rfl, rfl⟩
theorem g_R_125 : jl_gi "TemplateEngine$Renderer" 125 5 324 := ⟨4, f_R_125, rfl, rfl⟩
theorem g_R_135 : jl_gr "TemplateEngine$Renderer" 135 5 325 := ⟨5, f_R_135, rfl, rfl⟩
theorem g_R_162 : jl_gr "TemplateEngine$Renderer" 162 5 327 := ⟨7, f_R_162, rfl, rfl⟩
theorem g_R_171 : jl_gi "TemplateEngine$Renderer" 171 2 133 := ⟨5, f_R_171, rfl, rfl⟩
theorem g_R_178 : jl_gr "TemplateEngine$Renderer" 178 2 131 := ⟨3, f_R_178, rfl, rfl⟩
theorem g_R_181 : jl_gr "TemplateEngine$Renderer" 181 6 385 := ⟨1, f_R_181, rfl, rfl⟩
theorem g_R_191 : jl_gr "TemplateEngine$Renderer" 191 6 386 := ⟨2, f_R_191, rfl, rfl⟩
theorem g_R_197 : jl_gr "TemplateEngine$Renderer" 197 6 384 := ⟨0, f_R_197, rfl, rfl⟩
theorem g_R_204 : jl_gr "TemplateEngine$Renderer" 204 2 130 := ⟨2, f_R_204, rfl, rfl⟩
theorem g_R_210 : jl_gi "TemplateEngine$Renderer" 210 2 128 := ⟨0, f_R_210, rfl, rfl⟩
theorem g_R_222 : jl_gi "TemplateEngine$Renderer" 222 2 129 := ⟨1, f_R_222, rfl, rfl⟩
theorem g_R_235 : jl_gr "TemplateEngine$Renderer" 235 7 448 := ⟨0, f_R_235, rfl, rfl⟩
theorem g_R_243 : jl_gr "TemplateEngine$Renderer" 243 7 449 := ⟨1, f_R_243, rfl, rfl⟩
theorem g_R_250 : jl_gi "TemplateEngine$Renderer" 250 7 450 := ⟨2, f_R_250, rfl, rfl⟩
theorem g_R_253 : jl_gr "TemplateEngine$Renderer" 253 7 451 := ⟨3, f_R_253, rfl, rfl⟩
theorem g_P_20 : jl_gr "TemplateEngine$TemplateReader" 20 4 257 := ⟨1, f_P_20, rfl, rfl⟩
theorem g_P_26 : jl_gr "TemplateEngine$TemplateReader" 26 4 258 := ⟨2, f_P_26, rfl, rfl⟩
theorem g_P_30 : jl_gi "TemplateEngine$TemplateReader" 30 4 262 := ⟨6, f_P_30, rfl, rfl⟩
theorem g_P_34 : jl_gr "TemplateEngine$TemplateReader" 34 4 265 := ⟨9, f_P_34, rfl, rfl⟩
theorem g_P_38 : jl_gr "TemplateEngine$TemplateReader" 38 4 256 := ⟨0, f_P_38, rfl, rfl⟩
theorem g_P_42 : jl_gi "TemplateEngine$TemplateReader" 42 1 65 := ⟨1, f_P_42, rfl, rfl⟩
theorem g_P_72 : jl_gi "TemplateEngine$TemplateReader" 72 4 263 := ⟨7, f_P_72, rfl, rfl⟩
theorem g_P_75 : jl_gi "TemplateEngine$TemplateReader" 75 4 264 := ⟨8, f_P_75, rfl, rfl⟩
theorem g_P_90 : jl_gi "TemplateEngine$TemplateReader" 90 4 261 := ⟨5, f_P_90, rfl, rfl⟩
theorem g_P_93 : jl_gi "TemplateEngine$TemplateReader" 93 4 259 := ⟨3, f_P_93, rfl, rfl⟩
theorem g_P_96 : jl_gi "TemplateEngine$TemplateReader" 96 5 321 := ⟨1, f_P_96, rfl, rfl⟩
theorem g_P_106 : jl_gr "TemplateEngine$TemplateReader" 106 5 322 := ⟨2, f_P_106, rfl, rfl⟩
theorem g_P_113 : jl_gr "TemplateEngine$TemplateReader" 113 4 260 := ⟨4, f_P_113, rfl, rfl⟩
theorem g_P_116 : jl_gr "TemplateEngine$TemplateReader" 116 5 325 := ⟨5, f_P_116, rfl, rfl⟩
theorem g_P_119 : jl_gi "TemplateEngine$TemplateReader" 119 5 328 := ⟨8, f_P_119, rfl, rfl⟩
theorem g_P_123 : jl_gr "TemplateEngine$TemplateReader" 123 5 327 := ⟨7, f_P_123, rfl, rfl⟩
theorem g_P_126 : jl_gr "TemplateEngine$TemplateReader" 126 5 326 := ⟨6, f_P_126, rfl, rfl⟩
theorem g_P_135 : jl_gr "TemplateEngine$TemplateReader" 135 5 320 := ⟨0, f_P_135, rfl, rfl⟩
theorem g_P_210 : jl_gr "TemplateEngine$TemplateReader" 210 1 64 := ⟨0, f_P_210, rfl, rfl⟩
theorem g_P_214 : jl_gi "TemplateEngine$TemplateReader" 214 5 324 := ⟨4, f_P_214, rfl, rfl⟩
theorem g_P_221 : jl_gr "TemplateEngine$TemplateReader" 221 5 323 := ⟨3, f_P_221, rfl, rfl⟩
theorem g_P_301 : jl_gr "TemplateEngine$TemplateReader" 301 7 449 := ⟨1, f_P_301, rfl, rfl⟩
theorem g_P_312 : jl_gi "TemplateEngine$TemplateReader" 312 7 450 := ⟨2, f_P_312, rfl, rfl⟩
theorem g_P_330 : jl_gr "TemplateEngine$TemplateReader" 330 7 451 := ⟨3, f_P_330, rfl, rfl⟩
theorem g_T_9 : jl_gr "TemplateEngine$Text" 9 1 64 := ⟨0, f_T_9, rfl, rfl⟩
theorem g_T_15 : jl_gi "TemplateEngine$Text" 15 1 65 := ⟨1, f_T_15, rfl, rfl⟩
theorem g_V_12 : jl_gi "TemplateEngine$Value" 12 2 128 := ⟨0, f_V_12, rfl, rfl⟩
theorem g_V_16 : jl_gi "TemplateEngine$Value" 16 2 129 := ⟨1, f_V_16, rfl, rfl⟩
theorem g_V_19 : jl_gr "TemplateEngine$Value" 19 2 130 := ⟨2, f_V_19, rfl, rfl⟩
theorem g_V_23 : jl_gr "TemplateEngine$Value" 23 2 131 := ⟨3, f_V_23, rfl, rfl⟩
theorem g_V_27 : jl_gr "TemplateEngine$Value" 27 2 132 := ⟨4, f_V_27, rfl, rfl⟩
theorem g_V_31 : jl_gi "TemplateEngine$Value" 31 2 133 := ⟨5, f_V_31, rfl, rfl⟩
theorem g_V_40 : jl_gi "TemplateEngine$Value" 40 1 65 := ⟨1, f_V_40, rfl, rfl⟩
theorem g_M_7 : jl_gi "TemplateEngineModel" 7 8 512 := ⟨0, f_M_7, rfl, rfl⟩
theorem g_M_13 : jl_gi "TemplateEngineModel" 13 8 513 := ⟨1, f_M_13, rfl, rfl⟩
theorem g_M_16 : jl_gi "TemplateEngineModel" 16 8 514 := ⟨2, f_M_16, rfl, rfl⟩
theorem g_M_19 : jl_gi "TemplateEngineModel" 19 8 515 := ⟨3, f_M_19, rfl, rfl⟩
theorem g_M_22 : jl_gi "TemplateEngineModel" 22 8 516 := ⟨4, f_M_22, rfl, rfl⟩
theorem g_M_25 : jl_gi "TemplateEngineModel" 25 8 517 := ⟨5, f_M_25, rfl, rfl⟩
theorem g_M_28 : jl_gi "TemplateEngineModel" 28 8 518 := ⟨6, f_M_28, rfl, rfl⟩
theorem g_M_31 : jl_gr "TemplateEngineModel" 31 8 519 := ⟨7, f_M_31, rfl, rfl⟩
theorem g_M_35 : jl_gr "TemplateEngineModel" 35 8 520 := ⟨8, f_M_35, rfl, rfl⟩
theorem g_M_39 : jl_gr "TemplateEngineModel" 39 8 521 := ⟨9, f_M_39, rfl, rfl⟩
theorem g_M_42 : jl_gr "TemplateEngineModel" 42 8 522 := ⟨10, f_M_42, rfl, rfl⟩
theorem g_M_45 : jl_gr "TemplateEngineModel" 45 8 523 := ⟨11, f_M_45, rfl, rfl⟩
theorem g_M_48 : jl_gr "TemplateEngineModel" 48 8 524 := ⟨12, f_M_48, rfl, rfl⟩
theorem g_M_52 : jl_gr "TemplateEngineModel" 52 8 525 := ⟨13, f_M_52, rfl, rfl⟩
theorem g_M_56 : jl_gr "TemplateEngineModel" 56 8 526 := ⟨14, f_M_56, rfl, rfl⟩
theorem g_M_59 : jl_gr "TemplateEngineModel" 59 8 527 := ⟨15, f_M_59, rfl, rfl⟩
theorem g_M_62 : jl_gr "TemplateEngineModel" 62 8 528 := ⟨16, f_M_62, rfl, rfl⟩
theorem g_M_65 : jl_gr "TemplateEngineModel" 65 8 529 := ⟨17, f_M_65, rfl, rfl⟩
theorem g_M_68 : jl_gr "TemplateEngineModel" 68 8 530 := ⟨18, f_M_68, rfl, rfl⟩
theorem g_M_71 : jl_gr "TemplateEngineModel" 71 8 531 := ⟨19, f_M_71, rfl, rfl⟩
theorem g_M_74 : jl_gr "TemplateEngineModel" 74 8 532 := ⟨20, f_M_74, rfl, rfl⟩
theorem g_M_77 : jl_gr "TemplateEngineModel" 77 8 533 := ⟨21, f_M_77, rfl, rfl⟩
theorem g_M_80 : jl_gr "TemplateEngineModel" 80 8 534 := ⟨22, f_M_80, rfl, rfl⟩
theorem g_M_83 : jl_gr "TemplateEngineModel" 83 8 535 := ⟨23, f_M_83, rfl, rfl⟩
theorem g_M_86 : jl_gr "TemplateEngineModel" 86 8 536 := ⟨24, f_M_86, rfl, rfl⟩
theorem g_M_89 : jl_gr "TemplateEngineModel" 89 8 537 := ⟨25, f_M_89, rfl, rfl⟩
theorem g_M_92 : jl_gr "TemplateEngineModel" 92 8 538 := ⟨26, f_M_92, rfl, rfl⟩
theorem g_M_95 : jl_gr "TemplateEngineModel" 95 8 539 := ⟨27, f_M_95, rfl, rfl⟩
theorem g_M_98 : jl_gr "TemplateEngineModel" 98 8 540 := ⟨28, f_M_98, rfl, rfl⟩
theorem g_M_101 : jl_gr "TemplateEngineModel" 101 8 541 := ⟨29, f_M_101, rfl, rfl⟩
theorem g_M_104 : jl_gr "TemplateEngineModel" 104 8 542 := ⟨30, f_M_104, rfl, rfl⟩
theorem g_M_107 : jl_gr "TemplateEngineModel" 107 8 543 := ⟨31, f_M_107, rfl, rfl⟩
theorem g_M_110 : jl_gr "TemplateEngineModel" 110 8 544 := ⟨32, f_M_110, rfl, rfl⟩
theorem g_M_113 : jl_gi "TemplateEngineModel" 113 8 545 := ⟨33, f_M_113, rfl, rfl⟩
theorem g_M_116 : jl_gi "TemplateEngineModel" 116 8 546 := ⟨34, f_M_116, rfl, rfl⟩
theorem g_M_119 : jl_gi "TemplateEngineModel" 119 8 547 := ⟨35, f_M_119, rfl, rfl⟩
theorem g_M_122 : jl_gi "TemplateEngineModel" 122 8 548 := ⟨36, f_M_122, rfl, rfl⟩
theorem g_M_125 : jl_gi "TemplateEngineModel" 125 8 549 := ⟨37, f_M_125, rfl, rfl⟩
theorem g_M_128 : jl_gi "TemplateEngineModel" 128 8 550 := ⟨38, f_M_128, rfl, rfl⟩
theorem g_M_131 : jl_gi "TemplateEngineModel" 131 8 551 := ⟨39, f_M_131, rfl, rfl⟩
theorem g_M_134 : jl_gr "TemplateEngineModel" 134 8 552 := ⟨40, f_M_134, rfl, rfl⟩
theorem g_M_137 : jl_gr "TemplateEngineModel" 137 8 553 := ⟨41, f_M_137, rfl, rfl⟩
theorem g_M_140 : jl_gr "TemplateEngineModel" 140 8 554 := ⟨42, f_M_140, rfl, rfl⟩
theorem g_M_143 : jl_gr "TemplateEngineModel" 143 8 555 := ⟨43, f_M_143, rfl, rfl⟩
theorem g_M_146 : jl_gr "TemplateEngineModel" 146 8 556 := ⟨44, f_M_146, rfl, rfl⟩
theorem g_M_149 : jl_gr "TemplateEngineModel" 149 8 557 := ⟨45, f_M_149, rfl, rfl⟩
theorem g_M_152 : jl_gr "TemplateEngineModel" 152 8 558 := ⟨46, f_M_152, rfl, rfl⟩
theorem g_M_155 : jl_gr "TemplateEngineModel" 155 8 559 := ⟨47, f_M_155, rfl, rfl⟩
theorem p_E_init_14 : jl_pr m_E_init 14 0 0 := ⟨0, f_E_14, Or.inr ⟨rfl, rfl, rfl⟩, fun _ => w_E_14, Or.inl ⟨_, rfl⟩, rfl⟩
theorem p_E_init_20 : jl_pr m_E_init 20 0 1 := ⟨1, f_E_20, Or.inr ⟨rfl, rfl, rfl⟩, fun _ => w_E_20, Or.inr ⟨_, rfl⟩, rfl⟩
theorem p_E_init_26 : jl_pr m_E_init 26 0 4 := ⟨4, f_E_26, Or.inr ⟨rfl, rfl, rfl⟩, fun _ => w_E_26, Or.inr ⟨_, rfl⟩, rfl⟩
theorem p_E_init_30 : jl_pi m_E_init 30 0 5 := ⟨5, f_E_30, Or.inl rfl, (fun h => by cases h), rfl, rfl⟩
theorem p_E_init_37 : jl_pr m_E_init 37 0 6 := ⟨6, f_E_37, Or.inr ⟨rfl, rfl, rfl⟩, fun _ => w_E_37, Or.inl ⟨_, rfl⟩, rfl⟩
theorem p_E_type_41 : jl_pi m_E_type 41 0 7 := ⟨7, f_E_41, Or.inl rfl, (fun h => by cases h), rfl, rfl⟩
theorem p_E_number_41 : jl_pi m_E_number 41 0 7 := ⟨7, f_E_41, Or.inl rfl, (fun h => by cases h), rfl, rfl⟩
theorem p_E_text_41 : jl_pi m_E_text 41 0 7 := ⟨7, f_E_41, Or.inl rfl, (fun h => by cases h), rfl, rfl⟩
theorem p_E_list_41 : jl_pi m_E_list 41 0 7 := ⟨7, f_E_41, Or.inl rfl, (fun h => by cases h), rfl, rfl⟩
theorem p_E_map_41 : jl_pi m_E_map 41 0 7 := ⟨7, f_E_41, Or.inl rfl, (fun h => by cases h), rfl, rfl⟩
theorem p_E_add_41 : jl_pi m_E_add 41 0 7 := ⟨7, f_E_41, Or.inl rfl, (fun h => by cases h), rfl, rfl⟩
theorem p_E_put_41 : jl_pi m_E_put 41 0 7 := ⟨7, f_E_41, Or.inl rfl, (fun h => by cases h), rfl, rfl⟩
theorem p_E_compile_41 : jl_pi m_E_compile 41 0 7 := ⟨7, f_E_41, Or.inl rfl, (fun h => by cases h), rfl, rfl⟩
theorem p_E_compile_30 : jl_pi m_E_compile 30 0 5 := ⟨5, f_E_30, Or.inl rfl, (fun h => by cases h), rfl, rfl⟩
theorem p_E_render_41 : jl_pi m_E_render 41 0 7 := ⟨7, f_E_41, Or.inl rfl, (fun h => by cases h), rfl, rfl⟩
theorem p_E_at_41 : jl_pi m_E_at 41 0 7 := ⟨7, f_E_41, Or.inl rfl, (fun h => by cases h), rfl, rfl⟩
theorem p_E_kind_41 : jl_pi m_E_kind 41 0 7 := ⟨7, f_E_41, Or.inl rfl, (fun h => by cases h), rfl, rfl⟩
theorem p_E_size_41 : jl_pi m_E_size 41 0 7 := ⟨7, f_E_41, Or.inl rfl, (fun h => by cases h), rfl, rfl⟩
theorem p_E_keep_63 : jl_pi m_E_keep 63 0 2 := ⟨2, f_E_63, Or.inl rfl, (fun h => by cases h), rfl, rfl⟩
theorem p_E_wouldHoldItself_177 : jl_pi m_E_wouldHoldItself 177 0 3 := ⟨3, f_E_177, Or.inl rfl, (fun h => by cases h), rfl, rfl⟩
theorem p_E_isWithin_184 : jl_pi m_E_isWithin 184 2 134 := ⟨6, f_E_184, Or.inl rfl, (fun h => by cases h), rfl, rfl⟩
theorem p_M_init_7 : jl_pi m_M_init 7 8 512 := ⟨0, f_M_7, Or.inl rfl, (fun h => by cases h), rfl, rfl⟩
theorem p_M_init_13 : jl_pi m_M_init 13 8 513 := ⟨1, f_M_13, Or.inl rfl, (fun h => by cases h), rfl, rfl⟩
theorem p_M_init_16 : jl_pi m_M_init 16 8 514 := ⟨2, f_M_16, Or.inl rfl, (fun h => by cases h), rfl, rfl⟩
theorem p_M_init_19 : jl_pi m_M_init 19 8 515 := ⟨3, f_M_19, Or.inl rfl, (fun h => by cases h), rfl, rfl⟩
theorem p_M_init_22 : jl_pi m_M_init 22 8 516 := ⟨4, f_M_22, Or.inl rfl, (fun h => by cases h), rfl, rfl⟩
theorem p_M_init_25 : jl_pi m_M_init 25 8 517 := ⟨5, f_M_25, Or.inl rfl, (fun h => by cases h), rfl, rfl⟩
theorem p_M_init_28 : jl_pi m_M_init 28 8 518 := ⟨6, f_M_28, Or.inl rfl, (fun h => by cases h), rfl, rfl⟩
theorem p_M_init_31 : jl_pr m_M_init 31 8 519 := ⟨7, f_M_31, Or.inr ⟨rfl, rfl, rfl⟩, fun _ => w_M_31, Or.inr ⟨_, rfl⟩, rfl⟩
theorem p_M_init_35 : jl_pr m_M_init 35 8 520 := ⟨8, f_M_35, Or.inr ⟨rfl, rfl, rfl⟩, fun _ => w_M_35, Or.inr ⟨_, rfl⟩, rfl⟩
theorem p_M_init_39 : jl_pr m_M_init 39 8 521 := ⟨9, f_M_39, Or.inr ⟨rfl, rfl, rfl⟩, fun _ => w_M_39, Or.inr ⟨_, rfl⟩, rfl⟩
theorem p_M_init_42 : jl_pr m_M_init 42 8 522 := ⟨10, f_M_42, Or.inr ⟨rfl, rfl, rfl⟩, fun _ => w_M_42, Or.inr ⟨_, rfl⟩, rfl⟩
theorem p_M_init_45 : jl_pr m_M_init 45 8 523 := ⟨11, f_M_45, Or.inr ⟨rfl, rfl, rfl⟩, fun _ => w_M_45, Or.inr ⟨_, rfl⟩, rfl⟩
theorem p_M_init_48 : jl_pr m_M_init 48 8 524 := ⟨12, f_M_48, Or.inr ⟨rfl, rfl, rfl⟩, fun _ => w_M_48, Or.inr ⟨_, rfl⟩, rfl⟩
theorem p_M_init_52 : jl_pr m_M_init 52 8 525 := ⟨13, f_M_52, Or.inr ⟨rfl, rfl, rfl⟩, fun _ => w_M_52, Or.inr ⟨_, rfl⟩, rfl⟩
theorem p_M_init_56 : jl_pr m_M_init 56 8 526 := ⟨14, f_M_56, Or.inr ⟨rfl, rfl, rfl⟩, fun _ => w_M_56, Or.inr ⟨_, rfl⟩, rfl⟩
theorem p_M_init_59 : jl_pr m_M_init 59 8 527 := ⟨15, f_M_59, Or.inr ⟨rfl, rfl, rfl⟩, fun _ => w_M_59, Or.inr ⟨_, rfl⟩, rfl⟩
theorem p_M_init_62 : jl_pr m_M_init 62 8 528 := ⟨16, f_M_62, Or.inr ⟨rfl, rfl, rfl⟩, fun _ => w_M_62, Or.inr ⟨_, rfl⟩, rfl⟩
theorem p_M_init_65 : jl_pr m_M_init 65 8 529 := ⟨17, f_M_65, Or.inr ⟨rfl, rfl, rfl⟩, fun _ => w_M_65, Or.inr ⟨_, rfl⟩, rfl⟩
theorem p_M_init_68 : jl_pr m_M_init 68 8 530 := ⟨18, f_M_68, Or.inr ⟨rfl, rfl, rfl⟩, fun _ => w_M_68, Or.inr ⟨_, rfl⟩, rfl⟩
theorem p_M_init_71 : jl_pr m_M_init 71 8 531 := ⟨19, f_M_71, Or.inr ⟨rfl, rfl, rfl⟩, fun _ => w_M_71, Or.inr ⟨_, rfl⟩, rfl⟩
theorem p_M_init_74 : jl_pr m_M_init 74 8 532 := ⟨20, f_M_74, Or.inr ⟨rfl, rfl, rfl⟩, fun _ => w_M_74, Or.inr ⟨_, rfl⟩, rfl⟩
theorem p_M_init_77 : jl_pr m_M_init 77 8 533 := ⟨21, f_M_77, Or.inr ⟨rfl, rfl, rfl⟩, fun _ => w_M_77, Or.inr ⟨_, rfl⟩, rfl⟩
theorem p_M_init_80 : jl_pr m_M_init 80 8 534 := ⟨22, f_M_80, Or.inr ⟨rfl, rfl, rfl⟩, fun _ => w_M_80, Or.inr ⟨_, rfl⟩, rfl⟩
theorem p_M_init_83 : jl_pr m_M_init 83 8 535 := ⟨23, f_M_83, Or.inr ⟨rfl, rfl, rfl⟩, fun _ => w_M_83, Or.inr ⟨_, rfl⟩, rfl⟩
theorem p_M_init_86 : jl_pr m_M_init 86 8 536 := ⟨24, f_M_86, Or.inr ⟨rfl, rfl, rfl⟩, fun _ => w_M_86, Or.inr ⟨_, rfl⟩, rfl⟩
theorem p_M_init_89 : jl_pr m_M_init 89 8 537 := ⟨25, f_M_89, Or.inr ⟨rfl, rfl, rfl⟩, fun _ => w_M_89, Or.inr ⟨_, rfl⟩, rfl⟩
theorem p_M_init_92 : jl_pr m_M_init 92 8 538 := ⟨26, f_M_92, Or.inr ⟨rfl, rfl, rfl⟩, fun _ => w_M_92, Or.inr ⟨_, rfl⟩, rfl⟩
theorem p_M_init_95 : jl_pr m_M_init 95 8 539 := ⟨27, f_M_95, Or.inr ⟨rfl, rfl, rfl⟩, fun _ => w_M_95, Or.inr ⟨_, rfl⟩, rfl⟩
theorem p_M_init_98 : jl_pr m_M_init 98 8 540 := ⟨28, f_M_98, Or.inr ⟨rfl, rfl, rfl⟩, fun _ => w_M_98, Or.inr ⟨_, rfl⟩, rfl⟩
theorem p_M_init_101 : jl_pr m_M_init 101 8 541 := ⟨29, f_M_101, Or.inr ⟨rfl, rfl, rfl⟩, fun _ => w_M_101, Or.inr ⟨_, rfl⟩, rfl⟩
theorem p_M_init_104 : jl_pr m_M_init 104 8 542 := ⟨30, f_M_104, Or.inr ⟨rfl, rfl, rfl⟩, fun _ => w_M_104, Or.inr ⟨_, rfl⟩, rfl⟩
theorem p_M_init_107 : jl_pr m_M_init 107 8 543 := ⟨31, f_M_107, Or.inr ⟨rfl, rfl, rfl⟩, fun _ => w_M_107, Or.inr ⟨_, rfl⟩, rfl⟩
theorem p_M_init_110 : jl_pr m_M_init 110 8 544 := ⟨32, f_M_110, Or.inr ⟨rfl, rfl, rfl⟩, fun _ => w_M_110, Or.inr ⟨_, rfl⟩, rfl⟩
theorem p_M_init_113 : jl_pi m_M_init 113 8 545 := ⟨33, f_M_113, Or.inl rfl, (fun h => by cases h), rfl, rfl⟩
theorem p_M_init_116 : jl_pi m_M_init 116 8 546 := ⟨34, f_M_116, Or.inl rfl, (fun h => by cases h), rfl, rfl⟩
theorem p_M_init_119 : jl_pi m_M_init 119 8 547 := ⟨35, f_M_119, Or.inl rfl, (fun h => by cases h), rfl, rfl⟩
theorem p_M_init_122 : jl_pi m_M_init 122 8 548 := ⟨36, f_M_122, Or.inl rfl, (fun h => by cases h), rfl, rfl⟩
theorem p_M_init_125 : jl_pi m_M_init 125 8 549 := ⟨37, f_M_125, Or.inl rfl, (fun h => by cases h), rfl, rfl⟩
theorem p_M_init_128 : jl_pi m_M_init 128 8 550 := ⟨38, f_M_128, Or.inl rfl, (fun h => by cases h), rfl, rfl⟩
theorem p_M_init_131 : jl_pi m_M_init 131 8 551 := ⟨39, f_M_131, Or.inl rfl, (fun h => by cases h), rfl, rfl⟩
theorem p_M_init_134 : jl_pr m_M_init 134 8 552 := ⟨40, f_M_134, Or.inr ⟨rfl, rfl, rfl⟩, fun _ => w_M_134, Or.inr ⟨_, rfl⟩, rfl⟩
theorem p_M_init_137 : jl_pr m_M_init 137 8 553 := ⟨41, f_M_137, Or.inr ⟨rfl, rfl, rfl⟩, fun _ => w_M_137, Or.inr ⟨_, rfl⟩, rfl⟩
theorem p_M_init_140 : jl_pr m_M_init 140 8 554 := ⟨42, f_M_140, Or.inr ⟨rfl, rfl, rfl⟩, fun _ => w_M_140, Or.inr ⟨_, rfl⟩, rfl⟩
theorem p_M_init_143 : jl_pr m_M_init 143 8 555 := ⟨43, f_M_143, Or.inr ⟨rfl, rfl, rfl⟩, fun _ => w_M_143, Or.inr ⟨_, rfl⟩, rfl⟩
theorem p_M_init_146 : jl_pr m_M_init 146 8 556 := ⟨44, f_M_146, Or.inr ⟨rfl, rfl, rfl⟩, fun _ => w_M_146, Or.inr ⟨_, rfl⟩, rfl⟩
theorem p_M_init_149 : jl_pr m_M_init 149 8 557 := ⟨45, f_M_149, Or.inr ⟨rfl, rfl, rfl⟩, fun _ => w_M_149, Or.inr ⟨_, rfl⟩, rfl⟩
theorem p_M_init_152 : jl_pr m_M_init 152 8 558 := ⟨46, f_M_152, Or.inr ⟨rfl, rfl, rfl⟩, fun _ => w_M_152, Or.inr ⟨_, rfl⟩, rfl⟩
theorem p_M_init_155 : jl_pr m_M_init 155 8 559 := ⟨47, f_M_155, Or.inr ⟨rfl, rfl, rfl⟩, fun _ => w_M_155, Or.inr ⟨_, rfl⟩, rfl⟩
theorem p_M_refuse_7 : jl_pi m_M_refuse 7 8 512 := ⟨0, f_M_7, Or.inl rfl, (fun h => by cases h), rfl, rfl⟩
theorem p_M_refuse_13 : jl_pi m_M_refuse 13 8 513 := ⟨1, f_M_13, Or.inl rfl, (fun h => by cases h), rfl, rfl⟩
theorem p_M_fine_7 : jl_pi m_M_fine 7 8 512 := ⟨0, f_M_7, Or.inl rfl, (fun h => by cases h), rfl, rfl⟩
theorem p_M_type_16 : jl_pi m_M_type 16 8 514 := ⟨2, f_M_16, Or.inl rfl, (fun h => by cases h), rfl, rfl⟩
theorem p_M_make_22 : jl_pi m_M_make 22 8 516 := ⟨4, f_M_22, Or.inl rfl, (fun h => by cases h), rfl, rfl⟩
theorem p_M_text_16 : jl_pi m_M_text 16 8 514 := ⟨2, f_M_16, Or.inl rfl, (fun h => by cases h), rfl, rfl⟩
theorem p_M_put_16 : jl_pi m_M_put 16 8 514 := ⟨2, f_M_16, Or.inl rfl, (fun h => by cases h), rfl, rfl⟩
theorem p_M_compile_19 : jl_pi m_M_compile 19 8 515 := ⟨3, f_M_19, Or.inl rfl, (fun h => by cases h), rfl, rfl⟩
theorem p_M_compile_16 : jl_pi m_M_compile 16 8 514 := ⟨2, f_M_16, Or.inl rfl, (fun h => by cases h), rfl, rfl⟩
theorem p_M_rawPut_113 : jl_pi m_M_rawPut 113 8 545 := ⟨33, f_M_113, Or.inl rfl, (fun h => by cases h), rfl, rfl⟩
theorem p_M_rawData_131 : jl_pi m_M_rawData 131 8 551 := ⟨39, f_M_131, Or.inl rfl, (fun h => by cases h), rfl, rfl⟩
theorem p_M_showRaw_113 : jl_pi m_M_showRaw 113 8 545 := ⟨33, f_M_113, Or.inl rfl, (fun h => by cases h), rfl, rfl⟩
theorem p_M_showRaw_131 : jl_pi m_M_showRaw 131 8 551 := ⟨39, f_M_131, Or.inl rfl, (fun h => by cases h), rfl, rfl⟩
theorem p_M_showRaw_128 : jl_pi m_M_showRaw 128 8 550 := ⟨38, f_M_128, Or.inl rfl, (fun h => by cases h), rfl, rfl⟩
theorem p_M_emit_128 : jl_pi m_M_emit 128 8 550 := ⟨38, f_M_128, Or.inl rfl, (fun h => by cases h), rfl, rfl⟩
theorem p_M_emit_116 : jl_pi m_M_emit 116 8 546 := ⟨34, f_M_116, Or.inl rfl, (fun h => by cases h), rfl, rfl⟩
theorem p_M_push_125 : jl_pi m_M_push 125 8 549 := ⟨37, f_M_125, Or.inl rfl, (fun h => by cases h), rfl, rfl⟩
theorem p_M_block_122 : jl_pi m_M_block 122 8 548 := ⟨36, f_M_122, Or.inl rfl, (fun h => by cases h), rfl, rfl⟩
theorem p_M_ends_122 : jl_pi m_M_ends 122 8 548 := ⟨36, f_M_122, Or.inl rfl, (fun h => by cases h), rfl, rfl⟩
theorem p_M_ends_125 : jl_pi m_M_ends 125 8 549 := ⟨37, f_M_125, Or.inl rfl, (fun h => by cases h), rfl, rfl⟩
theorem p_M_partial_128 : jl_pi m_M_partial 128 8 550 := ⟨38, f_M_128, Or.inl rfl, (fun h => by cases h), rfl, rfl⟩
theorem p_M_tag_128 : jl_pi m_M_tag 128 8 550 := ⟨38, f_M_128, Or.inl rfl, (fun h => by cases h), rfl, rfl⟩
theorem p_M_tag_25 : jl_pi m_M_tag 25 8 517 := ⟨5, f_M_25, Or.inl rfl, (fun h => by cases h), rfl, rfl⟩
theorem p_M_go_125 : jl_pi m_M_go 125 8 549 := ⟨37, f_M_125, Or.inl rfl, (fun h => by cases h), rfl, rfl⟩
theorem p_M_render_25 : jl_pi m_M_render 25 8 517 := ⟨5, f_M_25, Or.inl rfl, (fun h => by cases h), rfl, rfl⟩
theorem p_M_render_125 : jl_pi m_M_render 125 8 549 := ⟨37, f_M_125, Or.inl rfl, (fun h => by cases h), rfl, rfl⟩
theorem p_M_render_122 : jl_pi m_M_render 122 8 548 := ⟨36, f_M_122, Or.inl rfl, (fun h => by cases h), rfl, rfl⟩
theorem p_M_render_116 : jl_pi m_M_render 116 8 546 := ⟨34, f_M_116, Or.inl rfl, (fun h => by cases h), rfl, rfl⟩
theorem p_M_render_128 : jl_pi m_M_render 128 8 550 := ⟨38, f_M_128, Or.inl rfl, (fun h => by cases h), rfl, rfl⟩
theorem p_M_render_119 : jl_pi m_M_render 119 8 547 := ⟨35, f_M_119, Or.inl rfl, (fun h => by cases h), rfl, rfl⟩
theorem p_M_render_28 : jl_pi m_M_render 28 8 518 := ⟨6, f_M_28, Or.inl rfl, (fun h => by cases h), rfl, rfl⟩
theorem p_M_count_7 : jl_pi m_M_count 7 8 512 := ⟨0, f_M_7, Or.inl rfl, (fun h => by cases h), rfl, rfl⟩
theorem p_X_init_7 : jl_pr m_X_init 7 6 384 := ⟨0, f_X_7, Or.inr ⟨rfl, rfl, rfl⟩, fun _ => w_X_7, Or.inl ⟨_, rfl⟩, rfl⟩
theorem p_X_init_13 : jl_pr m_X_init 13 6 385 := ⟨1, f_X_13, Or.inr ⟨rfl, rfl, rfl⟩, fun _ => w_X_13, Or.inl ⟨_, rfl⟩, rfl⟩
theorem p_X_init_17 : jl_pr m_X_init 17 6 386 := ⟨2, f_X_17, Or.inr ⟨rfl, rfl, rfl⟩, fun _ => w_X_17, Or.inl ⟨_, rfl⟩, rfl⟩
theorem p_O_init_7 : jl_pr m_O_init 7 7 448 := ⟨0, f_O_7, Or.inr ⟨rfl, rfl, rfl⟩, fun _ => w_O_7, Or.inl ⟨_, rfl⟩, rfl⟩
theorem p_N_init_7 : jl_pr m_N_init 7 5 320 := ⟨0, f_N_7, Or.inr ⟨rfl, rfl, rfl⟩, fun _ => w_N_7, Or.inl ⟨_, rfl⟩, rfl⟩
theorem p_N_init_13 : jl_pi m_N_init 13 5 321 := ⟨1, f_N_13, Or.inr ⟨rfl, rfl, rfl⟩, fun _ => w_N_13, rfl, rfl⟩
theorem p_R_init_11 : jl_pr m_R_init 11 3 192 := ⟨0, f_R_11, Or.inr ⟨rfl, rfl, rfl⟩, fun _ => w_R_11, Or.inr ⟨_, rfl⟩, rfl⟩
theorem p_R_init_17 : jl_pr m_R_init 17 3 194 := ⟨2, f_R_17, Or.inr ⟨rfl, rfl, rfl⟩, fun _ => w_R_17, Or.inr ⟨_, rfl⟩, rfl⟩
theorem p_R_init_24 : jl_pr m_R_init 24 3 195 := ⟨3, f_R_24, Or.inr ⟨rfl, rfl, rfl⟩, fun _ => w_R_24, Or.inl ⟨_, rfl⟩, rfl⟩
theorem p_R_init_33 : jl_pr m_R_init 33 3 196 := ⟨4, f_R_33, Or.inr ⟨rfl, rfl, rfl⟩, fun _ => w_R_33, Or.inl ⟨_, rfl⟩, rfl⟩
theorem p_R_init_37 : jl_pr m_R_init 37 3 197 := ⟨5, f_R_37, Or.inr ⟨rfl, rfl, rfl⟩, fun _ => w_R_37, Or.inl ⟨_, rfl⟩, rfl⟩
theorem p_R_init_40 : jl_pr m_R_init 40 3 198 := ⟨6, f_R_40, Or.inl rfl, (fun h => by cases h), Or.inl ⟨_, rfl⟩, rfl⟩
theorem p_R_init_43 : jl_pr m_R_init 43 3 199 := ⟨7, f_R_43, Or.inl rfl, (fun h => by cases h), Or.inl ⟨_, rfl⟩, rfl⟩
theorem p_R_run_50 : jl_pr m_R_run 50 3 200 := ⟨8, f_R_50, Or.inl rfl, (fun h => by cases h), Or.inr ⟨_, rfl⟩, rfl⟩
theorem p_R_run_57 : jl_pi m_R_run 57 3 193 := ⟨1, f_R_57, Or.inl rfl, (fun h => by cases h), rfl, rfl⟩
theorem p_R_run_61 : jl_pi m_R_run 61 3 201 := ⟨9, f_R_61, Or.inl rfl, (fun h => by cases h), rfl, rfl⟩
theorem p_R_run_64 : jl_pi m_R_run 64 3 202 := ⟨10, f_R_64, Or.inl rfl, (fun h => by cases h), rfl, rfl⟩
theorem p_R_run_67 : jl_pi m_R_run 67 3 203 := ⟨11, f_R_67, Or.inl rfl, (fun h => by cases h), rfl, rfl⟩
theorem p_R_run_43 : jl_pr m_R_run 43 3 199 := ⟨7, f_R_43, Or.inl rfl, (fun h => by cases h), Or.inl ⟨_, rfl⟩, rfl⟩
theorem p_R_run_40 : jl_pr m_R_run 40 3 198 := ⟨6, f_R_40, Or.inl rfl, (fun h => by cases h), Or.inl ⟨_, rfl⟩, rfl⟩
theorem p_R_run_80 : jl_pi m_R_run 80 3 204 := ⟨12, f_R_80, Or.inl rfl, (fun h => by cases h), rfl, rfl⟩
theorem p_R_meetTag_67 : jl_pi m_R_meetTag 67 3 203 := ⟨11, f_R_67, Or.inl rfl, (fun h => by cases h), rfl, rfl⟩
theorem p_R_renderPartial_64 : jl_pi m_R_renderPartial 64 3 202 := ⟨10, f_R_64, Or.inl rfl, (fun h => by cases h), rfl, rfl⟩
theorem p_R_renderPartial_61 : jl_pi m_R_renderPartial 61 3 201 := ⟨9, f_R_61, Or.inl rfl, (fun h => by cases h), rfl, rfl⟩
theorem p_R_renderBlock_57 : jl_pi m_R_renderBlock 57 3 193 := ⟨1, f_R_57, Or.inl rfl, (fun h => by cases h), rfl, rfl⟩
theorem p_R_renderEach_57 : jl_pi m_R_renderEach 57 3 193 := ⟨1, f_R_57, Or.inl rfl, (fun h => by cases h), rfl, rfl⟩
theorem p_R_renderEach_64 : jl_pi m_R_renderEach 64 3 202 := ⟨10, f_R_64, Or.inl rfl, (fun h => by cases h), rfl, rfl⟩
theorem p_R_evaluate_210 : jl_pi m_R_evaluate 210 2 128 := ⟨0, f_R_210, Or.inl rfl, (fun h => by cases h), rfl, rfl⟩
theorem p_P_init_20 : jl_pr m_P_init 20 4 257 := ⟨1, f_P_20, Or.inr ⟨rfl, rfl, rfl⟩, fun _ => w_P_20, Or.inl ⟨_, rfl⟩, rfl⟩
theorem p_P_init_26 : jl_pr m_P_init 26 4 258 := ⟨2, f_P_26, Or.inr ⟨rfl, rfl, rfl⟩, fun _ => w_P_26, Or.inr ⟨_, rfl⟩, rfl⟩
theorem p_P_init_30 : jl_pi m_P_init 30 4 262 := ⟨6, f_P_30, Or.inl rfl, (fun h => by cases h), rfl, rfl⟩
theorem p_P_init_34 : jl_pr m_P_init 34 4 265 := ⟨9, f_P_34, Or.inr ⟨rfl, rfl, rfl⟩, fun _ => w_P_34, Or.inr ⟨_, rfl⟩, rfl⟩
theorem p_P_init_38 : jl_pr m_P_init 38 4 256 := ⟨0, f_P_38, Or.inr ⟨rfl, rfl, rfl⟩, fun _ => w_P_38, Or.inl ⟨_, rfl⟩, rfl⟩
theorem p_P_takeApart_72 : jl_pi m_P_takeApart 72 4 263 := ⟨7, f_P_72, Or.inl rfl, (fun h => by cases h), rfl, rfl⟩
theorem p_P_takeApart_75 : jl_pi m_P_takeApart 75 4 264 := ⟨8, f_P_75, Or.inl rfl, (fun h => by cases h), rfl, rfl⟩
theorem p_P_takeApart_30 : jl_pi m_P_takeApart 30 4 262 := ⟨6, f_P_30, Or.inl rfl, (fun h => by cases h), rfl, rfl⟩
theorem p_P_takeApart_90 : jl_pi m_P_takeApart 90 4 261 := ⟨5, f_P_90, Or.inl rfl, (fun h => by cases h), rfl, rfl⟩
theorem p_P_attachPlain_106 : jl_pr m_P_attachPlain 106 5 322 := ⟨2, f_P_106, Or.inl rfl, (fun h => by cases h), Or.inl ⟨_, rfl⟩, rfl⟩
theorem p_P_attach_116 : jl_pr m_P_attach 116 5 325 := ⟨5, f_P_116, Or.inl rfl, (fun h => by cases h), Or.inl ⟨_, rfl⟩, rfl⟩
theorem p_P_attach_123 : jl_pr m_P_attach 123 5 327 := ⟨7, f_P_123, Or.inl rfl, (fun h => by cases h), Or.inl ⟨_, rfl⟩, rfl⟩
theorem p_P_attach_126 : jl_pr m_P_attach 126 5 326 := ⟨6, f_P_126, Or.inl rfl, (fun h => by cases h), Or.inl ⟨_, rfl⟩, rfl⟩
theorem p_P_attach_113 : jl_pr m_P_attach 113 4 260 := ⟨4, f_P_113, Or.inl rfl, (fun h => by cases h), Or.inl ⟨_, rfl⟩, rfl⟩
theorem p_P_beginBlock_93 : jl_pi m_P_beginBlock 93 4 259 := ⟨3, f_P_93, Or.inl rfl, (fun h => by cases h), rfl, rfl⟩
theorem p_P_beginBlock_113 : jl_pr m_P_beginBlock 113 4 260 := ⟨4, f_P_113, Or.inl rfl, (fun h => by cases h), Or.inl ⟨_, rfl⟩, rfl⟩
theorem p_P_beginOther_119 : jl_pz m_P_beginOther 119 5 328 := ⟨8, f_P_119, Or.inl rfl, (fun h => by cases h), rfl, rfl⟩
theorem p_P_beginOther_113 : jl_pr m_P_beginOther 113 4 260 := ⟨4, f_P_113, Or.inl rfl, (fun h => by cases h), Or.inl ⟨_, rfl⟩, rfl⟩
theorem p_P_endBlock_113 : jl_pr m_P_endBlock 113 4 260 := ⟨4, f_P_113, Or.inl rfl, (fun h => by cases h), Or.inl ⟨_, rfl⟩, rfl⟩
theorem p_P_endBlock_93 : jl_pi m_P_endBlock 93 4 259 := ⟨3, f_P_93, Or.inl rfl, (fun h => by cases h), rfl, rfl⟩
theorem p_P_readRest_214 : jl_pi m_P_readRest 214 5 324 := ⟨4, f_P_214, Or.inl rfl, (fun h => by cases h), rfl, rfl⟩
theorem p_P_readRest_221 : jl_pr m_P_readRest 221 5 323 := ⟨3, f_P_221, Or.inl rfl, (fun h => by cases h), Or.inl ⟨_, rfl⟩, rfl⟩
theorem p_P_readNumber_301 : jl_pr m_P_readNumber 301 7 449 := ⟨1, f_P_301, Or.inl rfl, (fun h => by cases h), Or.inl ⟨_, rfl⟩, rfl⟩
theorem p_P_readQuoted_301 : jl_pr m_P_readQuoted 301 7 449 := ⟨1, f_P_301, Or.inl rfl, (fun h => by cases h), Or.inl ⟨_, rfl⟩, rfl⟩
theorem p_P_readQuoted_72 : jl_pi m_P_readQuoted 72 4 263 := ⟨7, f_P_72, Or.inl rfl, (fun h => by cases h), rfl, rfl⟩
theorem p_P_readPath_312 : jl_pi m_P_readPath 312 7 450 := ⟨2, f_P_312, Or.inl rfl, (fun h => by cases h), rfl, rfl⟩
theorem p_P_readPath_330 : jl_pr m_P_readPath 330 7 451 := ⟨3, f_P_330, Or.inl rfl, (fun h => by cases h), Or.inr ⟨_, rfl⟩, rfl⟩
theorem p_P_readName_72 : jl_pi m_P_readName 72 4 263 := ⟨7, f_P_72, Or.inl rfl, (fun h => by cases h), rfl, rfl⟩
theorem p_P_readDigit_72 : jl_pi m_P_readDigit 72 4 263 := ⟨7, f_P_72, Or.inl rfl, (fun h => by cases h), rfl, rfl⟩
theorem p_P_accept_72 : jl_pi m_P_accept 72 4 263 := ⟨7, f_P_72, Or.inl rfl, (fun h => by cases h), rfl, rfl⟩
theorem p_T_init_9 : jl_pr m_T_init 9 1 64 := ⟨0, f_T_9, Or.inr ⟨rfl, rfl, rfl⟩, fun _ => w_T_9, Or.inr ⟨_, rfl⟩, rfl⟩
theorem p_T_clear_15 : jl_pi m_T_clear 15 1 65 := ⟨1, f_T_15, Or.inl rfl, (fun h => by cases h), rfl, rfl⟩
theorem p_T_append_15 : jl_pi m_T_append 15 1 65 := ⟨1, f_T_15, Or.inl rfl, (fun h => by cases h), rfl, rfl⟩
theorem p_V_ofNumber_12 : jl_pi m_V_ofNumber 12 2 128 := ⟨0, f_V_12, Or.inl rfl, (fun h => by cases h), rfl, rfl⟩
theorem p_V_ofNumber_16 : jl_pi m_V_ofNumber 16 2 129 := ⟨1, f_V_16, Or.inl rfl, (fun h => by cases h), rfl, rfl⟩
theorem p_V_ofText_12 : jl_pi m_V_ofText 12 2 128 := ⟨0, f_V_12, Or.inl rfl, (fun h => by cases h), rfl, rfl⟩
theorem p_V_ofText_19 : jl_pr m_V_ofText 19 2 130 := ⟨2, f_V_19, Or.inl rfl, (fun h => by cases h), Or.inl ⟨_, rfl⟩, rfl⟩
theorem p_V_ofEntries_12 : jl_pi m_V_ofEntries 12 2 128 := ⟨0, f_V_12, Or.inl rfl, (fun h => by cases h), rfl, rfl⟩
theorem p_V_ofEntries_23 : jl_pr m_V_ofEntries 23 2 131 := ⟨3, f_V_23, Or.inl rfl, (fun h => by cases h), Or.inr ⟨_, rfl⟩, rfl⟩
theorem p_V_ofEntries_27 : jl_pr m_V_ofEntries 27 2 132 := ⟨4, f_V_27, Or.inl rfl, (fun h => by cases h), Or.inr ⟨_, rfl⟩, rfl⟩
theorem p_V_becomeNumber_12 : jl_pi m_V_becomeNumber 12 2 128 := ⟨0, f_V_12, Or.inl rfl, (fun h => by cases h), rfl, rfl⟩
theorem p_V_becomeNumber_16 : jl_pi m_V_becomeNumber 16 2 129 := ⟨1, f_V_16, Or.inl rfl, (fun h => by cases h), rfl, rfl⟩
theorem p_V_setEntry_31 : jl_pi m_V_setEntry 31 2 133 := ⟨5, f_V_31, Or.inl rfl, (fun h => by cases h), rfl, rfl⟩
theorem jt_at {own E : String} {ic : Nat} {names : List String} (h : (vx_atS own ic E names).all (fun w => decide (w ∈ tables_1) && (goodWord w || decide (w ∈ jw_nest))) = true) : ∀ w ∈ vx_atS own ic E names, w ∈ jw_big ∨ w ∈ jw_nest := by
  intro w hw
  have h1 := List.all_eq_true.mp h w hw
  rw [Bool.and_eq_true, Bool.or_eq_true] at h1
  rcases h1.2 with q | q
  · exact Or.inl (List.mem_filter.mpr ⟨List.mem_append_right _ (of_decide_eq_true h1.1), q⟩)
  · exact Or.inr (of_decide_eq_true q)
theorem jt_mv {own own0 E : String} {ic ic0 : Nat} {names : List String} {w : Cond} (hw : w ∈ vx_atS own ic E names) (e : w ≠ Cond.methodLink own ic (Jvm.Bundle.initS E)) : w ∈ vx_atS own0 ic0 E names := by
  simp only [vx_atS, List.mem_filter] at hw ⊢
  refine ⟨?_, hw.2⟩
  have h1 := hw.1
  simp only [Jvm.Bundle.ownAtoms, List.mem_append, List.mem_cons] at h1 ⊢
  rcases h1 with h1 | h1
  · exact Or.inl h1
  · rcases h1 with h1 | h1
    · exact absurd h1 e
    · exact Or.inr (Or.inr h1)
theorem jx_IllegalArgumentException {own : String} {ic : Nat} (h : Cond.methodLink own ic (Jvm.Bundle.initS "java/lang/IllegalArgumentException") ∈ jw_big) : ∀ w ∈ vx_atS own ic "java/lang/IllegalArgumentException" ["java/lang/RuntimeException", "java/lang/Exception"], w ∈ jw_big ∨ w ∈ jw_nest := by
  intro w hw
  by_cases e : w = Cond.methodLink own ic (Jvm.Bundle.initS "java/lang/IllegalArgumentException")
  · rw [e]; exact Or.inl h
  · exact jt_at (own := "TemplateEngine") (ic := 48) (by decide +kernel) w (jt_mv hw e)
theorem jy_IllegalArgumentException {own : String} {ik ic : Nat} : ∀ w ∈ Cond.classLink own ik "java/lang/IllegalArgumentException" :: Cond.initialized "java/lang/IllegalArgumentException" :: vx_atS own ic "java/lang/IllegalArgumentException" ["java/lang/RuntimeException", "java/lang/Exception"], vx_ot w = true := by
  intro w hw
  rcases List.mem_cons.mp hw with rfl | hw
  · rfl
  rcases List.mem_cons.mp hw with rfl | hw
  · rfl
  by_cases e : w = Cond.methodLink own ic (Jvm.Bundle.initS "java/lang/IllegalArgumentException")
  · rw [e]; rfl
  · have h2 : (vx_atS "TemplateEngine" 48 "java/lang/IllegalArgumentException" ["java/lang/RuntimeException", "java/lang/Exception"]).all vx_ot = true := by decide +kernel
    exact List.all_eq_true.mp h2 w (jt_mv hw e)
theorem jx_IllegalStateException {own : String} {ic : Nat} (h : Cond.methodLink own ic (Jvm.Bundle.initS "java/lang/IllegalStateException") ∈ jw_big) : ∀ w ∈ vx_atS own ic "java/lang/IllegalStateException" ["java/lang/RuntimeException", "java/lang/Exception"], w ∈ jw_big ∨ w ∈ jw_nest := by
  intro w hw
  by_cases e : w = Cond.methodLink own ic (Jvm.Bundle.initS "java/lang/IllegalStateException")
  · rw [e]; exact Or.inl h
  · exact jt_at (own := "TemplateEngine") (ic := 58) (by decide +kernel) w (jt_mv hw e)
theorem jy_IllegalStateException {own : String} {ik ic : Nat} : ∀ w ∈ Cond.classLink own ik "java/lang/IllegalStateException" :: Cond.initialized "java/lang/IllegalStateException" :: vx_atS own ic "java/lang/IllegalStateException" ["java/lang/RuntimeException", "java/lang/Exception"], vx_ot w = true := by
  intro w hw
  rcases List.mem_cons.mp hw with rfl | hw
  · rfl
  rcases List.mem_cons.mp hw with rfl | hw
  · rfl
  by_cases e : w = Cond.methodLink own ic (Jvm.Bundle.initS "java/lang/IllegalStateException")
  · rw [e]; rfl
  · have h2 : (vx_atS "TemplateEngine" 58 "java/lang/IllegalStateException" ["java/lang/RuntimeException", "java/lang/Exception"]).all vx_ot = true := by decide +kernel
    exact List.all_eq_true.mp h2 w (jt_mv hw e)
theorem jx_IndexOutOfBoundsException {own : String} {ic : Nat} (h : Cond.methodLink own ic (Jvm.Bundle.initS "java/lang/IndexOutOfBoundsException") ∈ jw_big) : ∀ w ∈ vx_atS own ic "java/lang/IndexOutOfBoundsException" ["java/lang/RuntimeException", "java/lang/Exception"], w ∈ jw_big ∨ w ∈ jw_nest := by
  intro w hw
  by_cases e : w = Cond.methodLink own ic (Jvm.Bundle.initS "java/lang/IndexOutOfBoundsException")
  · rw [e]; exact Or.inl h
  · exact jt_at (own := "TemplateEngine") (ic := 133) (by decide +kernel) w (jt_mv hw e)
theorem jy_IndexOutOfBoundsException {own : String} {ik ic : Nat} : ∀ w ∈ Cond.classLink own ik "java/lang/IndexOutOfBoundsException" :: Cond.initialized "java/lang/IndexOutOfBoundsException" :: vx_atS own ic "java/lang/IndexOutOfBoundsException" ["java/lang/RuntimeException", "java/lang/Exception"], vx_ot w = true := by
  intro w hw
  rcases List.mem_cons.mp hw with rfl | hw
  · rfl
  rcases List.mem_cons.mp hw with rfl | hw
  · rfl
  by_cases e : w = Cond.methodLink own ic (Jvm.Bundle.initS "java/lang/IndexOutOfBoundsException")
  · rw [e]; rfl
  · have h2 : (vx_atS "TemplateEngine" 133 "java/lang/IndexOutOfBoundsException" ["java/lang/RuntimeException", "java/lang/Exception"]).all vx_ot = true := by decide +kernel
    exact List.all_eq_true.mp h2 w (jt_mv hw e)
theorem jx_ArithmeticException {own : String} {ic : Nat} (h : Cond.methodLink own ic (Jvm.Bundle.initS "java/lang/ArithmeticException") ∈ jw_big) : ∀ w ∈ vx_atS own ic "java/lang/ArithmeticException" ["java/lang/RuntimeException", "java/lang/Exception"], w ∈ jw_big ∨ w ∈ jw_nest := by
  intro w hw
  by_cases e : w = Cond.methodLink own ic (Jvm.Bundle.initS "java/lang/ArithmeticException")
  · rw [e]; exact Or.inl h
  · exact jt_at (own := "TemplateEngine$Renderer") (ic := 154) (by decide +kernel) w (jt_mv hw e)
theorem jy_ArithmeticException {own : String} {ik ic : Nat} : ∀ w ∈ Cond.classLink own ik "java/lang/ArithmeticException" :: Cond.initialized "java/lang/ArithmeticException" :: vx_atS own ic "java/lang/ArithmeticException" ["java/lang/RuntimeException", "java/lang/Exception"], vx_ot w = true := by
  intro w hw
  rcases List.mem_cons.mp hw with rfl | hw
  · rfl
  rcases List.mem_cons.mp hw with rfl | hw
  · rfl
  by_cases e : w = Cond.methodLink own ic (Jvm.Bundle.initS "java/lang/ArithmeticException")
  · rw [e]; rfl
  · have h2 : (vx_atS "TemplateEngine$Renderer" 154 "java/lang/ArithmeticException" ["java/lang/RuntimeException", "java/lang/Exception"]).all vx_ot = true := by decide +kernel
    exact List.all_eq_true.mp h2 w (jt_mv hw e)
theorem ts_E_type_20 : jw_ts m_E_type 20 "java/lang/IllegalArgumentException" := ⟨["java/lang/RuntimeException", "java/lang/Exception"], 44, 46, 48, 0, "no character 0 .. 127", by decide +kernel, by decide +kernel, n_E_44, jt_i1 9 rfl rfl, jx_IllegalArgumentException (jt_i2 4 rfl rfl), jy_IllegalArgumentException, rfl, k_E_type _ _ rfl, k_E_type _ _ rfl, k_E_type _ _ rfl, k_E_type _ _ rfl, k_E_type _ _ rfl, by decide⟩
theorem ts_E_type_43 : jw_ts m_E_type 43 "java/lang/IllegalStateException" := ⟨["java/lang/RuntimeException", "java/lang/Exception"], 54, 56, 58, 1, "THE LINE is full", by decide +kernel, by decide +kernel, n_E_54, jt_i1 10 rfl rfl, jx_IllegalStateException (jt_i2 40 rfl rfl), jy_IllegalStateException, rfl, k_E_type _ _ rfl, k_E_type _ _ rfl, k_E_type _ _ rfl, k_E_type _ _ rfl, k_E_type _ _ rfl, by decide⟩
theorem ts_E_number_19 : jw_ts m_E_number 19 "java/lang/IllegalStateException" := ⟨["java/lang/RuntimeException", "java/lang/Exception"], 54, 66, 58, 3, "60 DATA were made", by decide +kernel, by decide +kernel, n_E_54, jt_i1 10 rfl rfl, jx_IllegalStateException (jt_i2 40 rfl rfl), jy_IllegalStateException, rfl, k_E_number _ _ rfl, k_E_number _ _ rfl, k_E_number _ _ rfl, k_E_number _ _ rfl, k_E_number _ _ rfl, by decide⟩
theorem ts_E_text_19 : jw_ts m_E_text 19 "java/lang/IllegalStateException" := ⟨["java/lang/RuntimeException", "java/lang/Exception"], 54, 66, 58, 3, "60 DATA were made", by decide +kernel, by decide +kernel, n_E_54, jt_i1 10 rfl rfl, jx_IllegalStateException (jt_i2 40 rfl rfl), jy_IllegalStateException, rfl, k_E_text _ _ rfl, k_E_text _ _ rfl, k_E_text _ _ rfl, k_E_text _ _ rfl, k_E_text _ _ rfl, by decide⟩
theorem ts_E_list_19 : jw_ts m_E_list 19 "java/lang/IllegalStateException" := ⟨["java/lang/RuntimeException", "java/lang/Exception"], 54, 66, 58, 3, "60 DATA were made", by decide +kernel, by decide +kernel, n_E_54, jt_i1 10 rfl rfl, jx_IllegalStateException (jt_i2 40 rfl rfl), jy_IllegalStateException, rfl, k_E_list _ _ rfl, k_E_list _ _ rfl, k_E_list _ _ rfl, k_E_list _ _ rfl, k_E_list _ _ rfl, by decide⟩
theorem ts_E_map_19 : jw_ts m_E_map 19 "java/lang/IllegalStateException" := ⟨["java/lang/RuntimeException", "java/lang/Exception"], 54, 66, 58, 3, "60 DATA were made", by decide +kernel, by decide +kernel, n_E_54, jt_i1 10 rfl rfl, jx_IllegalStateException (jt_i2 40 rfl rfl), jy_IllegalStateException, rfl, k_E_map _ _ rfl, k_E_map _ _ rfl, k_E_map _ _ rfl, k_E_map _ _ rfl, k_E_map _ _ rfl, by decide⟩
theorem ts_E_add_65 : jw_ts m_E_add 65 "java/lang/IllegalArgumentException" := ⟨["java/lang/RuntimeException", "java/lang/Exception"], 44, 106, 48, 5, "no LIST, or it would contain itself", by decide +kernel, by decide +kernel, n_E_44, jt_i1 9 rfl rfl, jx_IllegalArgumentException (jt_i2 4 rfl rfl), jy_IllegalArgumentException, rfl, k_E_add _ _ rfl, k_E_add _ _ rfl, k_E_add _ _ rfl, k_E_add _ _ rfl, k_E_add _ _ rfl, by decide⟩
theorem ts_E_add_84 : jw_ts m_E_add 84 "java/lang/IllegalStateException" := ⟨["java/lang/RuntimeException", "java/lang/Exception"], 54, 111, 58, 6, "the LIST has 10", by decide +kernel, by decide +kernel, n_E_54, jt_i1 10 rfl rfl, jx_IllegalStateException (jt_i2 40 rfl rfl), jy_IllegalStateException, rfl, k_E_add _ _ rfl, k_E_add _ _ rfl, k_E_add _ _ rfl, k_E_add _ _ rfl, k_E_add _ _ rfl, by decide⟩
theorem ts_E_put_89 : jw_ts m_E_put 89 "java/lang/IllegalArgumentException" := ⟨["java/lang/RuntimeException", "java/lang/Exception"], 44, 121, 48, 7, "no MAP, it would contain itself, or THE LINE is no NAME", by decide +kernel, by decide +kernel, n_E_44, jt_i1 9 rfl rfl, jx_IllegalArgumentException (jt_i2 4 rfl rfl), jy_IllegalArgumentException, rfl, k_E_put _ _ rfl, k_E_put _ _ rfl, k_E_put _ _ rfl, k_E_put _ _ rfl, k_E_put _ _ rfl, by decide⟩
theorem ts_E_put_114 : jw_ts m_E_put 114 "java/lang/IllegalStateException" := ⟨["java/lang/RuntimeException", "java/lang/Exception"], 54, 127, 58, 8, "the MAP has 10 others", by decide +kernel, by decide +kernel, n_E_54, jt_i1 10 rfl rfl, jx_IllegalStateException (jt_i2 40 rfl rfl), jy_IllegalStateException, rfl, k_E_put _ _ rfl, k_E_put _ _ rfl, k_E_put _ _ rfl, k_E_put _ _ rfl, k_E_put _ _ rfl, by decide⟩
theorem ts_E_compile_19 : jw_ts m_E_compile 19 "java/lang/IndexOutOfBoundsException" := ⟨["java/lang/RuntimeException", "java/lang/Exception"], 129, 131, 133, 9, "no TEMPLATE 0 .. 3", by decide +kernel, by decide +kernel, n_E_129, jt_i1 13 rfl rfl, jx_IndexOutOfBoundsException (jt_i2 185 rfl rfl), jy_IndexOutOfBoundsException, rfl, k_E_compile _ _ rfl, k_E_compile _ _ rfl, k_E_compile _ _ rfl, k_E_compile _ _ rfl, k_E_compile _ _ rfl, by decide⟩
theorem ts_E_compile_79 : jw_ts m_E_compile 79 "java/lang/IllegalArgumentException" := ⟨["java/lang/RuntimeException", "java/lang/Exception"], 44, 143, 48, 30, "the template has a FAULT", by decide +kernel, by decide +kernel, n_E_44, jt_i1 9 rfl rfl, jx_IllegalArgumentException (jt_i2 4 rfl rfl), jy_IllegalArgumentException, rfl, k_E_compile _ _ rfl, k_E_compile _ _ rfl, k_E_compile _ _ rfl, k_E_compile _ _ rfl, k_E_compile _ _ rfl, by decide⟩
theorem ts_E_render_19 : jw_ts m_E_render 19 "java/lang/IndexOutOfBoundsException" := ⟨["java/lang/RuntimeException", "java/lang/Exception"], 129, 131, 133, 9, "no TEMPLATE 0 .. 3", by decide +kernel, by decide +kernel, n_E_129, jt_i1 13 rfl rfl, jx_IndexOutOfBoundsException (jt_i2 185 rfl rfl), jy_IndexOutOfBoundsException, rfl, k_E_render _ _ rfl, k_E_render _ _ rfl, k_E_render _ _ rfl, k_E_render _ _ rfl, k_E_render _ _ rfl, by decide⟩
theorem ts_E_at_28 : jw_ts m_E_at 28 "java/lang/IndexOutOfBoundsException" := ⟨["java/lang/RuntimeException", "java/lang/Exception"], 129, 161, 133, 40, "no such character", by decide +kernel, by decide +kernel, n_E_129, jt_i1 13 rfl rfl, jx_IndexOutOfBoundsException (jt_i2 185 rfl rfl), jy_IndexOutOfBoundsException, rfl, k_E_at _ _ rfl, k_E_at _ _ rfl, k_E_at _ _ rfl, k_E_at _ _ rfl, k_E_at _ _ rfl, by decide⟩
theorem ts_R_meetTag_10 : jw_ts m_R_meetTag 10 "java/lang/IllegalStateException" := ⟨["java/lang/RuntimeException", "java/lang/Exception"], 138, 140, 142, 32, "a 601st TAG would be come to", by decide +kernel, by decide +kernel, n_R_138, jt_i1 10 rfl rfl, jx_IllegalStateException (jt_i4 91 rfl rfl), jy_IllegalStateException, rfl, k_R_meetTag _ _ rfl, k_R_meetTag _ _ rfl, k_R_meetTag _ _ rfl, k_R_meetTag _ _ rfl, k_R_meetTag _ _ rfl, by decide⟩
theorem ts_R_renderPartial_29 : jw_ts m_R_renderPartial 29 "java/lang/ArithmeticException" := ⟨["java/lang/RuntimeException", "java/lang/Exception"], 150, 152, 154, 39, "a 4th TEMPLATE would be under way", by decide +kernel, by decide +kernel, n_R_150, jt_i1 29 rfl rfl, jx_ArithmeticException (jt_i4 195 rfl rfl), jy_ArithmeticException, rfl, k_R_renderPartial _ _ rfl, k_R_renderPartial _ _ rfl, k_R_renderPartial _ _ rfl, k_R_renderPartial _ _ rfl, k_R_renderPartial _ _ rfl, by decide⟩
theorem ts_T_append_12 : jw_ts m_T_append 12 "java/lang/IllegalStateException" := ⟨["java/lang/RuntimeException", "java/lang/Exception"], 19, 21, 23, 2, "the text would be too long", by decide +kernel, by decide +kernel, n_T_19, jt_i1 10 rfl rfl, jx_IllegalStateException (jt_i2 52 rfl rfl), jy_IllegalStateException, rfl, k_T_append _ _ rfl, k_T_append _ _ rfl, k_T_append _ _ rfl, k_T_append _ _ rfl, k_T_append _ _ rfl, by decide⟩
theorem q_T_67 : Cond.constantLong "TemplateEngine$Text" 67 (27) ∈ jw_big := jt_i2 160 rfl rfl
theorem q_R_257 : Cond.constantLong "TemplateEngine$Renderer" 257 (-1) ∈ jw_big := jt_i4 113 rfl rfl
theorem q_M_180 : Cond.constantLong "TemplateEngineModel" 180 (32) ∈ jw_big := jt_i5 208 rfl rfl
theorem q_M_182 : Cond.constantLong "TemplateEngineModel" 182 (96) ∈ jw_big := jt_i5 209 rfl rfl
theorem q_M_256 : Cond.constantLong "TemplateEngineModel" 256 (31611) ∈ jw_big := jt_i5 226 rfl rfl
theorem q_M_192 : Cond.constantLong "TemplateEngineModel" 192 (255) ∈ jw_big := jt_i5 231 rfl rfl
theorem q_M_258 : Cond.constantLong "TemplateEngineModel" 258 (8092539) ∈ jw_big := jt_i5 236 rfl rfl
theorem q_M_260 : Cond.constantLong "TemplateEngineModel" 260 (8224125) ∈ jw_big := jt_i5 237 rfl rfl
theorem q_M_262 : Cond.constantLong "TemplateEngineModel" 262 (32125) ∈ jw_big := jt_i5 238 rfl rfl
theorem q_M_218 : Cond.constantLong "TemplateEngineModel" 218 (7696416) ∈ jw_big := jt_i6 11 rfl rfl
theorem q_M_220 : Cond.constantLong "TemplateEngineModel" 220 (1818586656) ∈ jw_big := jt_i6 12 rfl rfl
theorem q_M_222 : Cond.constantLong "TemplateEngineModel" 222 (1852797984) ∈ jw_big := jt_i6 13 rfl rfl
theorem q_M_224 : Cond.constantLong "TemplateEngineModel" 224 (1633969184) ∈ jw_big := jt_i6 14 rfl rfl
theorem q_M_226 : Cond.constantLong "TemplateEngineModel" 226 (6648096) ∈ jw_big := jt_i6 15 rfl rfl
theorem q_M_228 : Cond.constantLong "TemplateEngineModel" 228 (6386720) ∈ jw_big := jt_i6 16 rfl rfl
theorem q_M_197 : Cond.constantLong "TemplateEngineModel" 197 (70821567817080) ∈ jw_big := jt_i6 29 rfl rfl
theorem q_M_203 : Cond.constantLong "TemplateEngineModel" 203 (70808599950196) ∈ jw_big := jt_i6 30 rfl rfl
theorem q_M_205 : Cond.constantLong "TemplateEngineModel" 205 (3026479) ∈ jw_big := jt_i6 31 rfl rfl
theorem q_M_210 : Cond.constantLong "TemplateEngineModel" 210 (1952999795) ∈ jw_big := jt_i6 36 rfl rfl
theorem q_M_242 : Cond.constantLong "TemplateEngineModel" 242 (594109984) ∈ jw_big := jt_i6 41 rfl rfl
theorem q_M_244 : Cond.constantLong "TemplateEngineModel" 244 (2550551843551838208) ∈ jw_big := jt_i6 42 rfl rfl
theorem q_M_246 : Cond.constantLong "TemplateEngineModel" 246 (2555627262240096256) ∈ jw_big := jt_i6 43 rfl rfl
theorem q_M_248 : Cond.constantLong "TemplateEngineModel" 248 (1701606245) ∈ jw_big := jt_i6 44 rfl rfl
theorem q_M_250 : Cond.constantLong "TemplateEngineModel" 250 (3107174) ∈ jw_big := jt_i6 45 rfl rfl
theorem q_M_252 : Cond.constantLong "TemplateEngineModel" 252 (203564344168) ∈ jw_big := jt_i6 46 rfl rfl
theorem q_M_254 : Cond.constantLong "TemplateEngineModel" 254 (203866862696) ∈ jw_big := jt_i6 47 rfl rfl
theorem q_M_289 : Cond.constantLong "TemplateEngineModel" 289 (9) ∈ jw_big := jt_i6 156 rfl rfl
theorem q_M_291 : Cond.constantLong "TemplateEngineModel" 291 (10) ∈ jw_big := jt_i6 157 rfl rfl
theorem q_M_293 : Cond.constantLong "TemplateEngineModel" 293 (48) ∈ jw_big := jt_i6 158 rfl rfl
theorem q_M_352 : Cond.constantLong "TemplateEngineModel" 352 (164843319355) ∈ jw_big := jt_i6 195 rfl rfl
theorem q_M_354 : Cond.constantLong "TemplateEngineModel" 354 (644641851) ∈ jw_big := jt_i6 196 rfl rfl
theorem q_M_356 : Cond.constantLong "TemplateEngineModel" 356 (644314171) ∈ jw_big := jt_i6 197 rfl rfl
theorem q_M_358 : Cond.constantLong "TemplateEngineModel" 358 (42268743398459) ∈ jw_big := jt_i6 198 rfl rfl
end
section
/-! MORE RULES: shifts, longs, arrays of booleans, constants of the pool -/
section JWT
variable {g : jg_G} {d : Nat} {M : jw_M} {T : Code → Prop} {pc : Nat} {ls : List (Option jV)} {st : List jV} {h : jh_H} {kc ks : Nat} {Q : jw_O → jh_H → Prop}
theorem jw_ishl {x y : Int32} (hd : M.2.2.2.2 pc = some (.ishl, 1)) (k : jw_J g d M T (pc + 1) ls (.inl (x <<< (y &&& 31)) :: st) h kc ks Q) : jw_J g d M T pc ls (.inl y :: .inl x :: st) h kc ks Q := by
  intro p e s m args below meth c R Z H locs cells slots arr hA hT hE hP hS hl hc hs
  obtain ⟨hx, hb, hml, hown, hts, hr, hlk, hnm, hwd, hdf, hdl, hst, hok⟩ := id hA
  exact lv_ishl hx hb (hok _ _ hd) (k p e s m args below meth c R Z H locs cells slots arr hA hT hE hP hS hl hc hs)
theorem jw_ishr {x y : Int32} (hd : M.2.2.2.2 pc = some (.ishr, 1)) (k : jw_J g d M T (pc + 1) ls (.inl (x >>> (y &&& 31)) :: st) h kc ks Q) : jw_J g d M T pc ls (.inl y :: .inl x :: st) h kc ks Q := by
  intro p e s m args below meth c R Z H locs cells slots arr hA hT hE hP hS hl hc hs
  obtain ⟨hx, hb, hml, hown, hts, hr, hlk, hnm, hwd, hdf, hdl, hst, hok⟩ := id hA
  exact lv_ishr hx hb (hok _ _ hd) (k p e s m args below meth c R Z H locs cells slots arr hA hT hE hP hS hl hc hs)
theorem jw_lshr {x : Int64} {y : Int32} (hd : M.2.2.2.2 pc = some (.lshr, 1)) (k : jw_J g d M T (pc + 1) ls (.inr (.inl (x >>> (y.toInt64 &&& 63))) :: st) h kc ks Q) : jw_J g d M T pc ls (.inl y :: .inr (.inl x) :: st) h kc ks Q := by
  intro p e s m args below meth c R Z H locs cells slots arr hA hT hE hP hS hl hc hs
  obtain ⟨hx, hb, hml, hown, hts, hr, hlk, hnm, hwd, hdf, hdl, hst, hok⟩ := id hA
  exact lv_lshr hx hb (hok _ _ hd) rfl (k p e s m args below meth c R Z H locs cells slots arr hA hT hE hP hS hl hc hs)
theorem jw_land {x y : Int64} (hd : M.2.2.2.2 pc = some (.land, 1)) (k : jw_J g d M T (pc + 1) ls (.inr (.inl (x &&& y)) :: st) h kc ks Q) : jw_J g d M T pc ls (.inr (.inl y) :: .inr (.inl x) :: st) h kc ks Q := by
  intro p e s m args below meth c R Z H locs cells slots arr hA hT hE hP hS hl hc hs
  obtain ⟨hx, hb, hml, hown, hts, hr, hlk, hnm, hwd, hdf, hdl, hst, hok⟩ := id hA
  exact lv_land hx hb (hok _ _ hd) (k p e s m args below meth c R Z H locs cells slots arr hA hT hE hP hS hl hc hs)
theorem jw_ldiv {x y : Int64} (hd : M.2.2.2.2 pc = some (.ldiv, 1)) (hne : ¬ y = 0) (k : jw_J g d M T (pc + 1) ls (.inr (.inl (x / y)) :: st) h kc ks Q) : jw_J g d M T pc ls (.inr (.inl y) :: .inr (.inl x) :: st) h kc ks Q := by
  intro p e s m args below meth c R Z H locs cells slots arr hA hT hE hP hS hl hc hs
  obtain ⟨hx, hb, hml, hown, hts, hr, hlk, hnm, hwd, hdf, hdl, hst, hok⟩ := id hA
  exact lv_ldiv hx hb (hok _ _ hd) hne (k p e s m args below meth c R Z H locs cells slots arr hA hT hE hP hS hl hc hs)
theorem jw_lrem {x y : Int64} (hd : M.2.2.2.2 pc = some (.lrem, 1)) (hne : ¬ y = 0) (k : jw_J g d M T (pc + 1) ls (.inr (.inl (x - x / y * y)) :: st) h kc ks Q) : jw_J g d M T pc ls (.inr (.inl y) :: .inr (.inl x) :: st) h kc ks Q := by
  intro p e s m args below meth c R Z H locs cells slots arr hA hT hE hP hS hl hc hs
  obtain ⟨hx, hb, hml, hown, hts, hr, hlk, hnm, hwd, hdf, hdl, hst, hok⟩ := id hA
  exact lv_lrem hx hb (hok _ _ hd) hne (k p e s m args below meth c R Z H locs cells slots arr hA hT hE hP hS hl hc hs)
theorem jw_lneg {x : Int64} (hd : M.2.2.2.2 pc = some (.lneg, 1)) (k : jw_J g d M T (pc + 1) ls (.inr (.inl (-x)) :: st) h kc ks Q) : jw_J g d M T pc ls (.inr (.inl x) :: st) h kc ks Q := by
  intro p e s m args below meth c R Z H locs cells slots arr hA hT hE hP hS hl hc hs
  obtain ⟨hx, hb, hml, hown, hts, hr, hlk, hnm, hwd, hdf, hdl, hst, hok⟩ := id hA
  exact lv_lneg hx hb (hok _ _ hd) (k p e s m args below meth c R Z H locs cells slots arr hA hT hE hP hS hl hc hs)
theorem jw_dup22 {v : jV} (hd : M.2.2.2.2 pc = some (.dup2, 1)) (hv : jv_c v = 2) (k : jw_J g d M T (pc + 1) ls (v :: v :: st) h kc ks Q) : jw_J g d M T pc ls (v :: st) h kc ks Q := by
  intro p e s m args below meth c R Z H locs cells slots arr hA hT hE hP hS hl hc hs
  obtain ⟨hx, hb, hml, hown, hts, hr, hlk, hnm, hwd, hdf, hdl, hst, hok⟩ := id hA
  exact lv_dup2_2 hx hb (hok _ _ hd) ((jv_cat v).trans hv) (k p e s m args below meth c R Z H locs cells slots arr hA hT hE hP hS hl hc hs)
theorem jw_ldc2 {idx : Nat} {v : Int64} (hd : M.2.2.2.2 pc = some (.ldc2_w idx, 3)) (hw : Cond.constantLong M.1.cls idx v ∈ jw_big) (k : jw_J g d M T (pc + 3) ls (.inr (.inl v) :: st) h kc ks Q) : jw_J g d M T pc ls st h kc ks Q := by
  intro p e s m args below meth c R Z H locs cells slots arr hA hT hE hP hS hl hc hs
  obtain ⟨hx, hb, hml, hown, hts, hr, hlk, hnm, hwd, hdf, hdl, hst, hok⟩ := id hA
  exact lv_ldc2 hx hb hown (hts _ hw) (hok _ _ hd) (k p e s m args below meth c R Z H locs cells slots arr hA hT hE hP hS hl hc hs)
theorem js_zald {a t n : Nat} {i : Int32} (j : Nat) (hd : M.2.2.2.2 pc = some (.baload, 1)) (ho : jh_A h a t n) (ht : t < jc_an) (hty : jc_at t = .boolean) (hi : i = nI j) (hj : j < n) (hn : n < 2 ^ 31) (kk : jw_J g d M T (pc + 1) ls (.inl (jh_I h a j) :: st) h kc ks Q) : jw_J g d M T pc ls (.inl i :: .inr (.inr (some a)) :: st) h kc ks Q := by
  intro p e s m args below meth c R Z H locs cells slots arr hA hT hE hP hS hl hc hs
  obtain ⟨hx, hb, hml, hown, hts, hr, hlk, hnm, hwd, hdf, hdl, hst, hok⟩ := id hA
  obtain ⟨q0, he⟩ := jh_A_at (g := g) ho
  have e1 : jh_ac h a t = .inl (jh_I h a) := by simp only [jh_ac, hty, jc_so]
  rw [e1] at he
  subst hi
  have e2 : (nI j).toNatClampNeg = j := nI_clamp (by omega)
  exact va_zald hx hb hwd.1 hP.1 q0 t he (by rw [jg_t_at g ht, hty]) (vp_in_nI hj hn) (hok _ _ hd) (by rw [e2]; exact kk p e s m args below meth c R Z H locs cells slots arr hA hT hE hP hS hl hc hs)
theorem js_zast {a t n : Nat} {i x : Int32} (j : Nat) (hd : M.2.2.2.2 pc = some (.bastore, 1)) (ho : jh_A h a t n) (ht : t < jc_an) (hty : jc_at t = .boolean) (hi : i = nI j) (hj : j < n) (hn : n < 2 ^ 31) (hx01 : x = 0 ∨ x = 1) (kk : jw_J g d M T (pc + 1) ls st (jh_sI h a j x) kc ks Q) : jw_J g d M T pc ls (.inl x :: .inl i :: .inr (.inr (some a)) :: st) h kc ks Q := by
  intro p e s m args below meth c R Z H locs cells slots arr hA hT hE hP hS hl hc hs
  obtain ⟨hx, hb, hml, hown, hts, hr, hlk, hnm, hwd, hdf, hdl, hst, hok⟩ := id hA
  obtain ⟨q0, he⟩ := jh_A_at (g := g) ho
  have hset := jh_A_set (h' := jh_sI h a j x) hP.2 ho he rfl rfl (fun b hb => jh_E_o rfl rfl rfl rfl (jh_u_row _ _ _ hb) rfl rfl)
  have e1 : jh_ac h a t = .inl (jh_I h a) := by simp only [jh_ac, hty, jc_so]
  have e3 : jh_ac (jh_sI h a j x) a t = .inl (va_up (jh_I h a) j x) := by
    simp only [jh_ac, hty, jc_so]; exact congrArg Sum.inl (jh_u_up _ _ _ _)
  rw [e1] at he
  rw [e3] at hset
  subst hi
  have e2 : (nI j).toNatClampNeg = j := nI_clamp (by omega)
  have e4 : vp_nar .boolean x = x := by rcases hx01 with rfl | rfl <;> rfl
  refine va_zast hx hb hwd.1 hP.1 hP.2 hS q0 t he (by rw [jg_t_at g ht, hty]) (vp_in_nI hj hn) (hok _ _ hd) (fun H1 locs1 p1 d1 s1 => ?_)
  rw [e2, e4, jh_upd, hset] at p1 d1
  exact kk p e s m args below meth c R Z H1 locs1 cells slots arr hA hT hE ⟨p1, d1⟩ s1 hl hc hs
/-- a call on an object: what comes back is told by the callee's own rule -/
theorem jv_sum (st : List jV) : ((st.map jv).map fun v => v.category).sum = (st.map jv_c).sum := by
  rw [List.map_map]
  exact congrArg List.sum (List.map_congr_left (fun x _ => jv_cat x))
theorem js_call {M' : jw_M} {d' n idx mc ms a ci : Nat} {As : List jV} (hd : M.2.2.2.2 pc = some (.invokevirtual idx, 3)) (hm : jl_m M' n) (hk : jl_k M.1.cls idx M'.1) (hin : Cond.instanceMethod M'.1 ∈ jw_big) (hse : Cond.selects M'.1.cls M'.1 M'.1 ∈ jw_big) (hcq : jc_ok ci) (hcn : (jc_q ci).1 = M'.1.cls) (ho : jh_O h a ci) (hn : As.length = n)
    (hC : jw_C g d' mc ms M' (.inr (.inr (some a)) :: As) h (fun o h' => match o with | .inl (some x) => jw_J g d M T (pc + 3) ls (x :: st) h' (kc - mc) (ks - ms) Q | .inl none => jw_J g d M T (pc + 3) ls st h' (kc - mc) (ks - ms) Q | .inr E => Q (.inr E) h'))
    (hd1 : d' + 1 ≤ d) (hst0 : (st.map jv_c).sum ≤ 8) (hmc : mc ≤ kc) (hms : ms ≤ ks) (hT : T = jw_T0) : jw_J g d M T pc ls (As.reverse ++ .inr (.inr (some a)) :: st) h kc ks Q :=
  jw_callV hd hm hk hin hse hd1 hcq hcn ho hn (by rw [jv_sum]; exact hst0) hmc hms (fun c hc x hx => by subst hT; exact absurd (hc x hx) id) hC (fun v _ z => by cases v <;> exact z) (fun _ _ z => z)
theorem js_callS {M' : jw_M} {d' n idx mc ms : Nat} {As : List jV} (hd : M.2.2.2.2 pc = some (.invokestatic idx, 3)) (hm : jl_m M' n) (hk : jl_k M.1.cls idx M'.1) (hin : Cond.static M'.1 ∈ jw_big) (hn : As.length = n)
    (hC : jw_C g d' mc ms M' As h (fun o h' => match o with | .inl (some x) => jw_J g d M T (pc + 3) ls (x :: st) h' (kc - mc) (ks - ms) Q | .inl none => jw_J g d M T (pc + 3) ls st h' (kc - mc) (ks - ms) Q | .inr E => Q (.inr E) h'))
    (hd1 : d' + 1 ≤ d) (hst0 : (st.map jv_c).sum ≤ 8) (hmc : mc ≤ kc) (hms : ms ≤ ks) (hT : T = jw_T0) : jw_J g d M T pc ls (As.reverse ++ st) h kc ks Q :=
  jw_callS hd hm hk hin hd1 hn (by rw [jv_sum]; exact hst0) hmc hms (fun c hc x hx => by subst hT; exact absurd (hc x hx) id) hC (fun v _ z => by cases v <;> exact z) (fun _ _ z => z)
theorem js_callI {M' : jw_M} {d' n idx mc ms a : Nat} {As : List jV} (hd : M.2.2.2.2 pc = some (.invokespecial idx, 3)) (hm : jl_m M' n) (hk : jl_k M.1.cls idx M'.1) (hin : Cond.instanceMethod M'.1 ∈ jw_big) (hnm : M'.1.name = "<init>") (hrt : M'.2.2.2.1 = none) (hn : As.length = n)
    (hC : jw_C g d' mc ms M' (.inr (.inr (some a)) :: As) h (fun o h' => match o with | .inl (some x) => jw_J g d M T (pc + 3) ls (x :: st) h' (kc - mc) (ks - ms) Q | .inl none => jw_J g d M T (pc + 3) ls st h' (kc - mc) (ks - ms) Q | .inr E => Q (.inr E) h'))
    (hd1 : d' + 1 ≤ d) (hst0 : (st.map jv_c).sum ≤ 8) (hmc : mc ≤ kc) (hms : ms ≤ ks) (hT : T = jw_T0) : jw_J g d M T pc ls (As.reverse ++ .inr (.inr (some a)) :: st) h kc ks Q :=
  jw_callI hd hm hk hin hnm hrt hd1 hn (by rw [jv_sum]; exact hst0) hmc hms (fun c hc x hx => by subst hT; exact absurd (hc x hx) id) hC (fun v _ z => by cases v <;> exact z) (fun _ _ z => z)
theorem js_drop {ls' : List (Option jV)} (j : Nat) (hs : ls.set j none = ls') (k : jw_J g d M T pc ls' st h kc ks Q) : jw_J g d M T pc ls st h kc ks Q := by
  refine jw_less (fun i v hv => ?_) k
  rw [← hs] at hv
  by_cases q : j = i
  · subst q
    rw [List.getElem?_set_self'] at hv
    cases hz : ls[j]? with
    | none => rw [hz] at hv; cases hv
    | some z => rw [hz] at hv; simp at hv
  · rwa [List.getElem?_set_ne q] at hv
end JWT
end
section
/-! TEXT: rows of characters -/
theorem jw_nc {c : Code} (hT : jw_T0 c) (pc : Nat) : ∀ x ∈ c.exceptionTable.toList, covers x pc = false := fun x hx => absurd (hT x hx) id
/-- a Text at a, its row at ch, room for cap, n there -/
def tx_at (h : jh_H) (a ch cap n : Nat) : Prop := jh_O h a 1 ∧ jh_A h ch 0 cap ∧ jh_r h a 64 = some ch ∧ jh_i h a 65 = nI n ∧ n ≤ cap ∧ cap ≤ 400
theorem jn_ch {x : Int32} (h0 : ¬ x < 0) (h1 : x ≤ 65535) : vp_nar .char x = x := by
  obtain ⟨j, hj, rfl⟩ := nI_of2 (M := 65535) (n := 65535) (by decide) h0 h1
  have := (pk_charN (q := j) (by omega)).1
  simp only [vp_nar, this]
/-- clear -/
theorem ct_clear {g : jg_G} (hg : (jg_l g).stackTraces = false) {h : jh_H} {a : Nat} {Q : jw_O → jh_H → Prop} (ho : jh_O h a 1) (hq : Q (.inl none) (jh_si h a 65 0)) : jw_C g 0 0 0 m_T_clear [.inr (.inr (some a))] h Q := by
  refine jw_intro (ls := [some (.inr (.inr (some a)))]) (by decide) k_T_clear rfl (by simp [lo_fit, jv_c]) hg ?_
  refine jw_aload_n rfl rfl ?_
  refine js_iconst (x := 0) rfl rfl ?_
  refine jw_pi rfl p_T_clear_15 (by assumption) ?_
  refine jw_return rfl rfl ?_
  exact hq
/-- append -/
theorem ct_append {g : jg_G} (hg : (jg_l g).stackTraces = false) {h : jh_H} {a ch cap n : Nat} {c : Int32} {Q : jw_O → jh_H → Prop} (ht : tx_at h a ch cap n)
    (hq : n < cap → Q (.inl none) (jh_si (jh_sI h ch n (vp_nar .char c)) a 65 (nI (n + 1)))) (hx : n = cap → Q (.inr "java/lang/IllegalStateException") h) : jw_C g 10 1 6 m_T_append [.inr (.inr (some a)), .inl c] h Q := by
  obtain ⟨ho, hA, hr, hn, hle, hcap⟩ := ht
  refine jw_intro (ls := [some (.inr (.inr (some a))), some (.inl c)]) (by decide) k_T_append rfl (by simp [lo_fit, jv_c]) hg ?_
  refine jw_aload_n rfl rfl ?_
  refine jw_gi rfl g_T_15 (by assumption) (by assumption) ?_
  refine jw_aload_n rfl rfl ?_
  refine jw_gr rfl g_T_9 (by assumption) (by assumption) ?_
  refine js_alen rfl (by assumption) (by decide) ?_
  refine jw_icmp_lt 22 rfl rfl (fun c1 => ?_) (fun c1 => ?_)
  · have hlt : n < cap := (nI_ltI (by omega) (by omega)).mp c1
    refine jw_aload_n rfl rfl ?_
    refine jw_gr rfl g_T_9 (by assumption) (by assumption) ?_
    refine jw_aload_n rfl rfl ?_
    refine jw_gi rfl g_T_15 (by assumption) (by assumption) ?_
    refine jw_iload_n rfl rfl ?_
    refine js_cast (n) rfl (by assumption) (by decide) (by rfl)  rfl hlt (by omega) ?_
    refine jw_aload_n rfl rfl ?_
    refine jw_dup rfl rfl ?_
    refine jw_gi rfl g_T_15 (by assumption) (by assumption) ?_
    refine js_iconst (x := 1) rfl rfl ?_
    refine jw_iadd rfl ?_
    refine jw_pi rfl p_T_append_15 (by assumption) ?_
    rw [nI_1]
    refine jw_return rfl rfl ?_
    exact hq hlt
  · have hge : n = cap := by
      have : ¬ n < cap := fun q => c1 ((nI_ltI (by omega) (by omega)).mpr q)
      omega
    exact jw_throw (E := "java/lang/IllegalStateException") ts_T_append_12 (by decide) (by decide) (by decide) (by decide) (fun c hc => jw_nc hc _) (hx hge)
end
section
/-! THE SPECIFICATION, in Lean's own words: what stands in a template's text. t: the characters; p, e: from p up to e -/
def sp_at (t : Nat → Nat) (p e : Nat) : Nat := if p < e then t p else 0
def sp_lt (c : Nat) : Bool := decide (97 ≤ c ∧ c ≤ 122)
def sp_dg (c : Nat) : Bool := decide (48 ≤ c ∧ c ≤ 57)
/-- how many letters from p on -/
def sp_ln (t : Nat → Nat) (e : Nat) : Nat → Nat → Nat
  | 0, _ => 0
  | n + 1, p => if sp_lt (sp_at t p e) then sp_ln t e n (p + 1) + 1 else 0
def sp_letters (t : Nat → Nat) (p e : Nat) : Nat := sp_ln t e (e - p) p
/-- does the word stand at p -/
def sp_st (t : Nat → Nat) (e : Nat) : Nat → List Nat → Bool
  | _, [] => true
  | p, c :: r => if sp_at t p e = c then sp_st t e (p + 1) r else false
theorem sp_ln_end (t : Nat → Nat) (e n p : Nat) (h : e ≤ p) : sp_ln t e n p = 0 := by
  cases n with
  | zero => rfl
  | succ n =>
    have : sp_at t p e = 0 := by simp [sp_at, Nat.not_lt.mpr h]
    simp [sp_ln, this, sp_lt]
theorem sp_ln_le (t : Nat → Nat) (e : Nat) : ∀ n p, p ≤ e → p + sp_ln t e n p ≤ e := by
  intro n
  induction n with
  | zero => intro p h; simpa [sp_ln] using h
  | succ n ih =>
    intro p h
    rcases Nat.lt_or_ge p e with q | q
    · rw [sp_ln]
      split
      · have := ih (p + 1) q; omega
      · omega
    · rw [sp_ln_end t e (n + 1) p q]; omega
theorem sp_letters_le (t : Nat → Nat) {p e : Nat} (h : p ≤ e) : p + sp_letters t p e ≤ e := sp_ln_le t e _ p h
end
section
/-! words, paths, operands, expressions: where they end; the sort of a tag by its inside -/
def sp_wd (bl : List Nat) : Nat → List Nat
  | 0 => []
  | n + 1 => if bl.getD n 0 = 0 then sp_wd bl n else bl.getD n 0 :: sp_wd bl n
/-- behind all ../ -/
def sp_up (t : Nat → Nat) (e : Nat) : Nat → Nat → Nat
  | 0, k => k
  | n + 1, k => if sp_st t e k [46, 46, 47] then sp_up t e n (k + 3) else k
/-- how many letters, or one digit, stand behind a point at k -/
def sp_step (t : Nat → Nat) (k e : Nat) : Nat := if sp_letters t (k + 1) e = 0 ∧ sp_dg (sp_at t (k + 1) e) then 1 else sp_letters t (k + 1) e
/-- the steps of a path behind its first name -/
def sp_tail (t : Nat → Nat) (e : Nat) : Nat → Nat → Option Nat
  | 0, k => some k
  | n + 1, k => if sp_at t k e = 46 then (if sp_step t k e < 1 ∨ 8 < sp_step t k e then none else sp_tail t e n (k + (1 + sp_step t k e))) else some k
def sp_pathEnd (t : Nat → Nat) (p e : Nat) : Option Nat :=
  if sp_st t e p [64, 105, 110, 100, 101, 120] ∨ sp_st t e p [64, 102, 105, 114, 115, 116] then some (p + 6)
  else if sp_letters t (sp_up t e (e - p) p) e < 1 ∨ 8 < sp_letters t (sp_up t e (e - p) p) e then none
  else if sp_letters t (sp_up t e (e - p) p) e = 4 ∧ sp_st t e (sp_up t e (e - p) p) [116, 104, 105, 115] then some (sp_up t e (e - p) p + 4)
  else sp_tail t e (e - p) (sp_up t e (e - p) p + sp_letters t (sp_up t e (e - p) p) e)
def sp_quote (t : Nat → Nat) (e : Nat) : Nat → Nat → Nat
  | 0, k => k
  | n + 1, k => if k < e ∧ t k ≠ 34 ∧ t k ≠ 125 then sp_quote t e n (k + 1) else k
def sp_digits (t : Nat → Nat) (e : Nat) : Nat → Nat → Nat
  | 0, k => k
  | n + 1, k => if sp_dg (sp_at t k e) then sp_digits t e n (k + 1) else k
def sp_operandEnd (t : Nat → Nat) (p e : Nat) : Option Nat :=
  if sp_at t p e = 34 then (if sp_at t (sp_quote t e (e - (p + 1)) (p + 1)) e = 34 then some (sp_quote t e (e - (p + 1)) (p + 1) + 1) else none)
  else if sp_dg (sp_at t p e) then some (sp_digits t e 5 p) else sp_pathEnd t p e
def sp_helper (t : Nat → Nat) (p e : Nat) : Nat :=
  if sp_st t e p [117, 112, 32] then 1 else if sp_st t e p [108, 101, 110, 32] then 2 else if sp_st t e p [110, 111, 116, 32] then 3 else if sp_st t e p [97, 100, 100, 32] then 4 else if sp_st t e p [101, 113, 32] then 5 else if sp_st t e p [97, 116, 32] then 6 else 0
def sp_hs (h : Nat) : Nat := if h = 1 ∨ 4 < h then 3 else 4
def sp_isExpr (t : Nat → Nat) (p e : Nat) : Bool :=
  if sp_helper t p e = 0 then decide (sp_operandEnd t p e = some e ∧ p < e)
  else match sp_operandEnd t (p + sp_hs (sp_helper t p e)) e with
    | none => false
    | some k => if sp_helper t p e < 4 then decide (k = e) else decide (sp_at t k e = 32 ∧ sp_operandEnd t (k + 1) e = some e)
/-- the sort of a tag by its inside from p up to e; none if it is none -/
def sp_sort (t : Nat → Nat) (p e : Nat) (three : Bool) : Option Nat :=
  if three then (if sp_isExpr t p e then some 1 else none)
  else if sp_at t p e = 33 then some 2
  else if sp_st t e p [35, 105, 102, 32] then (if sp_isExpr t (p + 4) e then some 3 else none)
  else if sp_st t e p [35, 101, 97, 99, 104, 32] then (if sp_isExpr t (p + 6) e then some 4 else none)
  else if sp_st t e p [35, 119, 105, 116, 104, 32] then (if sp_isExpr t (p + 6) e then some 5 else none)
  else if e - p = 4 ∧ sp_st t e p [101, 108, 115, 101] then some 6
  else if e - p = 3 ∧ sp_st t e p [47, 105, 102] then some 7
  else if e - p = 5 ∧ sp_st t e p [47, 101, 97, 99, 104] then some 8
  else if e - p = 5 ∧ sp_st t e p [47, 119, 105, 116, 104] then some 9
  else if sp_at t p e = 62 then (if e - p = 3 ∧ t (p + 1) = 32 ∧ 97 ≤ t (p + 2) ∧ t (p + 2) ≤ 100 then some 10 else none)
  else if sp_isExpr t p e then some 0 else none
theorem sp_st_le (t : Nat → Nat) (e : Nat) : ∀ (w : List Nat) (p : Nat), (∀ c ∈ w, c ≠ 0) → sp_st t e p w = true → p ≤ e ∨ w = [] → p + w.length ≤ e ∨ w = [] := by
  intro w
  induction w with
  | nil => intro p _ _ _; exact Or.inr rfl
  | cons c r ih =>
    intro p hc h hp
    rw [sp_st] at h
    split at h
    case isTrue h0 =>
      have hlt : p < e := by
        rcases Nat.lt_or_ge p e with q | q
        · exact q
        · have : sp_at t p e = 0 := by simp [sp_at, Nat.not_lt.mpr q]
          exact absurd (h0.symm.trans this) (hc c List.mem_cons_self)
      rcases ih (p + 1) (fun x hx => hc x (List.mem_cons_of_mem _ hx)) h (Or.inl hlt) with q | q
      · left; rw [List.length_cons]; omega
      · subst q; left; simp; omega
    case isFalse h0 => cases h
theorem sp_up_le (t : Nat → Nat) (e : Nat) : ∀ n k, k ≤ e → sp_up t e n k ≤ e ∧ k ≤ sp_up t e n k := by
  intro n
  induction n with
  | zero => intro k h; exact ⟨h, Nat.le_refl _⟩
  | succ n ih =>
    intro k h
    rw [sp_up]
    split
    case isTrue h0 =>
      have h1 := sp_st_le t e [46, 46, 47] k (by decide) h0 (Or.inl h)
      have h2 : k + 3 ≤ e := by rcases h1 with q | q; exact q; cases q
      have := ih (k + 3) h2
      omega
    case isFalse h0 => exact ⟨h, Nat.le_refl _⟩
end
section
/-! THE MODEL: its object mo with its rows at ar. mo_T: a row's key, its type, its length -/
def mo_T : List (Nat × Nat × Nat) := [(519, 0, 200), (520, 1, 60), (521, 1, 60), (522, 1, 3000), (523, 1, 600), (524, 2, 600), (525, 3, 60), (526, 0, 1000), (527, 1, 5), (528, 1, 5), (529, 3, 4), (530, 1, 250), (531, 1, 250), (532, 1, 250), (533, 1, 250), (534, 1, 250), (535, 1, 250), (536, 1, 250), (537, 1, 4), (538, 1, 18), (539, 1, 18), (540, 1, 18), (541, 0, 7200), (542, 0, 401), (543, 0, 400), (544, 0, 400), (552, 1, 20), (553, 1, 20), (554, 1, 20), (555, 1, 20), (556, 1, 60), (557, 1, 60), (558, 3, 20), (559, 3, 20)]
def mo_ok (h : jh_H) (mo : Nat) (ar : Nat → Nat) : Prop := jh_O h mo 8 ∧ (∀ x ∈ mo_T, jh_r h mo x.1 = some (ar x.1) ∧ jh_A h (ar x.1) x.2.1 x.2.2) ∧ ∀ x ∈ mo_T, ∀ y ∈ mo_T, ar x.1 = ar y.1 → x.1 = y.1
theorem mo_r {h : jh_H} {mo : Nat} {ar : Nat → Nat} (hm : mo_ok h mo ar) (i : Nat) {k t n : Nat} (hx : mo_T[i]? = some (k, t, n)) : jh_r h mo k = some (ar k) := (hm.2.1 _ (List.mem_of_getElem? hx)).1
theorem mo_a {h : jh_H} {mo : Nat} {ar : Nat → Nat} (hm : mo_ok h mo ar) (i : Nat) {k t n : Nat} (hx : mo_T[i]? = some (k, t, n)) : jh_A h (ar k) t n := (hm.2.1 _ (List.mem_of_getElem? hx)).2
/-- the text that the model has: t -/
def mo_tx (h : jh_H) (ar : Nat → Nat) (t : Nat → Nat) : Prop := ∀ i, i < 1000 → jh_I h (ar 526) i = nI (t i) ∧ t i < 128
def sp_b (b : Bool) : Int32 := if b then 1 else 0
theorem cm_thrown {g : jg_G} (hg : (jg_l g).stackTraces = false) {h : jh_H} {mo : Nat} {Q : jw_O → jh_H → Prop} (ho : jh_O h mo 8) (hq : Q (.inl (some (.inl (jh_i h mo 512)))) h) : jw_C g 0 0 0 m_M_thrown [.inr (.inr (some mo))] h Q := by
  refine jw_intro (ls := [some (.inr (.inr (some mo)))]) (by decide) k_M_thrown rfl (by simp [lo_fit, jv_c]) hg ?_
  refine jw_aload_n rfl rfl ?_
  refine jw_gi rfl g_M_7 ho rfl ?_
  refine jw_ireturn rfl rfl rfl ?_
  exact hq
theorem cm_letter {g : jg_G} (hg : (jg_l g).stackTraces = false) {h : jh_H} {mo c : Nat} {Q : jw_O → jh_H → Prop} (hc : c < 65536) (hq : Q (.inl (some (.inl (sp_b (sp_lt c))))) h) : jw_C g 0 0 0 m_M_letter [.inr (.inr (some mo)), .inl (nI c)] h Q := by
  refine jw_intro (ls := [some (.inr (.inr (some mo))), some (.inl (nI c))]) (by decide) k_M_letter rfl (by simp [lo_fit, jv_c]) hg ?_
  refine jw_iload_n rfl rfl ?_
  refine js_bipush (x := 97) rfl rfl ?_
  refine jw_icmp_lt 16 rfl rfl (fun c1 => ?_) (fun c1 => ?_)
  · have h1 : c < 97 := (nI_ltI (b := 97) (by omega) (by omega)).mp c1
    have e : sp_lt c = false := by simp [sp_lt]; omega
    rw [e] at hq
    refine js_iconst (x := 0) rfl rfl ?_
    refine jw_ireturn rfl rfl rfl ?_
    exact hq
  · have h1 : ¬ c < 97 := fun z => c1 ((nI_ltI (b := 97) (by omega) (by omega)).mpr z)
    refine jw_iload_n rfl rfl ?_
    refine js_bipush (x := 122) rfl rfl ?_
    refine jw_icmp_gt 16 rfl rfl (fun c2 => ?_) (fun c2 => ?_)
    · have h2 : 122 < c := (nI_ltI (a := 122) (by omega) (by omega)).mp c2
      have e : sp_lt c = false := by simp [sp_lt]; omega
      rw [e] at hq
      refine js_iconst (x := 0) rfl rfl ?_
      refine jw_ireturn rfl rfl rfl ?_
      exact hq
    · have h2 : ¬ 122 < c := fun z => c2 ((nI_ltI (a := 122) (by omega) (by omega)).mpr z)
      have e : sp_lt c = true := by simp [sp_lt]; omega
      rw [e] at hq
      refine js_iconst (x := 1) rfl rfl ?_
      refine jw_goto 17 rfl rfl ?_
      refine jw_ireturn rfl rfl rfl ?_
      exact hq
theorem cm_at0 {g : jg_G} (hg : (jg_l g).stackTraces = false) {h : jh_H} {mo p e : Nat} {ar t : Nat → Nat} {Q : jw_O → jh_H → Prop} (hm : mo_ok h mo ar) (ht : mo_tx h ar t) (hp : p < 2 ^ 30) (he : e ≤ 1000) (hq : Q (.inl (some (.inl (nI (sp_at t p e))))) h) : jw_C g 0 0 0 m_M_at0 [.inr (.inr (some mo)), .inl (nI p), .inl (nI e)] h Q := by
  refine jw_intro (ls := [some (.inr (.inr (some mo))), some (.inl (nI p)), some (.inl (nI e))]) (by decide) k_M_at0 rfl (by simp [lo_fit, jv_c]) hg ?_
  refine jw_iload_n rfl rfl ?_
  refine jw_iload_n rfl rfl ?_
  refine jw_icmp_ge 14 rfl rfl (fun c1 => ?_) (fun c1 => ?_)
  · have h1 : e ≤ p := (nI_leI (by omega) (by omega)).mp c1
    have e1 : sp_at t p e = 0 := by simp [sp_at]; omega
    rw [e1] at hq
    refine js_iconst (x := 0) rfl rfl ?_
    refine jw_ireturn rfl rfl rfl ?_
    exact hq
  · have h1 : p < e := Nat.lt_of_not_le (fun z => c1 ((nI_leI (by omega) (by omega)).mpr z))
    have e1 : sp_at t p e = t p := by simp [sp_at, h1]
    rw [e1] at hq
    refine jw_aload_n rfl rfl ?_
    refine jw_gr rfl g_M_56 hm.1 (mo_r hm 7 rfl) ?_
    refine jw_iload_n rfl rfl ?_
    refine js_cald (p) rfl (mo_a hm 7 rfl) (by decide) (by rfl)  rfl (by omega) (by decide) ?_
    refine jw_goto 15 rfl rfl ?_
    rw [(ht p (by omega)).1]
    refine jw_ireturn rfl rfl rfl ?_
    exact hq
theorem cm_digit {g : jg_G} (hg : (jg_l g).stackTraces = false) {h : jh_H} {mo c : Nat} {Q : jw_O → jh_H → Prop} (hc : c < 65536) (hq : Q (.inl (some (.inl (sp_b (sp_dg c))))) h) : jw_C g 0 0 0 m_M_digit [.inr (.inr (some mo)), .inl (nI c)] h Q := by
  refine jw_intro (ls := [some (.inr (.inr (some mo))), some (.inl (nI c))]) (by decide) k_M_digit rfl (by simp [lo_fit, jv_c]) hg ?_
  refine jw_iload_n rfl rfl ?_
  refine js_bipush (x := 48) rfl rfl ?_
  refine jw_icmp_lt 16 rfl rfl (fun c1 => ?_) (fun c1 => ?_)
  · have h1 : c < 48 := (nI_ltI (b := 48) (by omega) (by omega)).mp c1
    have e : sp_dg c = false := by simp [sp_dg]; omega
    rw [e] at hq
    refine js_iconst (x := 0) rfl rfl ?_
    refine jw_ireturn rfl rfl rfl ?_
    exact hq
  · have h1 : ¬ c < 48 := fun z => c1 ((nI_ltI (b := 48) (by omega) (by omega)).mpr z)
    refine jw_iload_n rfl rfl ?_
    refine js_bipush (x := 57) rfl rfl ?_
    refine jw_icmp_gt 16 rfl rfl (fun c2 => ?_) (fun c2 => ?_)
    · have h2 : 57 < c := (nI_ltI (a := 57) (by omega) (by omega)).mp c2
      have e : sp_dg c = false := by simp [sp_dg]; omega
      rw [e] at hq
      refine js_iconst (x := 0) rfl rfl ?_
      refine jw_ireturn rfl rfl rfl ?_
      exact hq
    · have h2 : ¬ 57 < c := fun z => c2 ((nI_ltI (a := 57) (by omega) (by omega)).mpr z)
      have e : sp_dg c = true := by simp [sp_dg]; omega
      rw [e] at hq
      refine js_iconst (x := 1) rfl rfl ?_
      refine jw_goto 17 rfl rfl ?_
      refine jw_ireturn rfl rfl rfl ?_
      exact hq
theorem sp_at_lt {h : jh_H} {ar t : Nat → Nat} (ht : mo_tx h ar t) {p e : Nat} (he : e ≤ 1000) : sp_at t p e < 128 := by
  rw [sp_at]
  split
  · exact (ht p (by omega)).2
  · omega
theorem cm_letters {g : jg_G} (hg : (jg_l g).stackTraces = false) {h : jh_H} {mo p e : Nat} {ar t : Nat → Nat} {Q : jw_O → jh_H → Prop} (hm : mo_ok h mo ar) (ht : mo_tx h ar t) (hp : p ≤ e + 2) (he : e ≤ 1000) (hq : Q (.inl (some (.inl (nI (sp_letters t p e))))) h) : jw_C g 1 0 0 m_M_letters [.inr (.inr (some mo)), .inl (nI p), .inl (nI e)] h Q := by
  refine jw_intro (ls := [some (.inr (.inr (some mo))), some (.inl (nI p)), some (.inl (nI e)), none]) (by decide) k_M_letters rfl (by simp [lo_fit, jv_c]) hg ?_
  have loop : ∀ n k, n = e - k → p ≤ k → k ≤ e + 2 → Q (.inl (some (.inl (nI (k - p + sp_ln t e n k))))) h → jw_J g 1 m_M_letters jw_T0 2 [some (.inr (.inr (some mo))), some (.inl (nI p)), some (.inl (nI e)), some (.inl (nI k))] [] h 0 0 Q := by
    intro n
    induction n with
    | zero =>
      intro k hn hk hk2 hq
      have e0 : sp_at t k e = 0 := by simp [sp_at]; omega
      refine jw_aload_n rfl rfl ?_
      refine jw_aload_n rfl rfl ?_
      refine jw_iload_n rfl rfl ?_
      refine jw_iload_n rfl rfl ?_
      refine js_call (As := [.inl (nI k), .inl (nI e)]) rfl l_M_at0 c_M_194 i_M_at0 s_M_at0 jc_o8 rfl (hm.1) rfl (cm_at0 hg hm ht (by omega) he ?_) (by decide) (Nat.le_of_ble_eq_true rfl) (by omega) (by omega) rfl
      rw [e0]
      refine js_call (As := [.inl (nI 0)]) rfl l_M_letter c_M_177 i_M_letter s_M_letter jc_o8 rfl (hm.1) rfl (cm_letter hg (by omega) ?_) (by decide) (Nat.le_of_ble_eq_true rfl) (by omega) (by omega) rfl
      refine jw_if_eq 21 rfl rfl (fun c1 => ?_) (fun c1 => absurd rfl c1)
      refine jw_iload_n rfl rfl ?_
      refine jw_iload_n rfl rfl ?_
      refine jw_isub rfl ?_
      rw [pk_sub hk]
      refine jw_ireturn rfl rfl rfl ?_
      exact hq
    | succ n ih =>
      intro k hn hk hk2 hq
      have hlt := sp_at_lt (p := k) ht he
      refine jw_aload_n rfl rfl ?_
      refine jw_aload_n rfl rfl ?_
      refine jw_iload_n rfl rfl ?_
      refine jw_iload_n rfl rfl ?_
      refine js_call (As := [.inl (nI k), .inl (nI e)]) rfl l_M_at0 c_M_194 i_M_at0 s_M_at0 jc_o8 rfl (hm.1) rfl (cm_at0 hg hm ht (by omega) he ?_) (by decide) (Nat.le_of_ble_eq_true rfl) (by omega) (by omega) rfl
      refine js_call (As := [.inl (nI (sp_at t k e))]) rfl l_M_letter c_M_177 i_M_letter s_M_letter jc_o8 rfl (hm.1) rfl (cm_letter hg (by omega) ?_) (by decide) (Nat.le_of_ble_eq_true rfl) (by omega) (by omega) rfl
      rw [sp_ln] at hq
      cases hs : sp_lt (sp_at t k e) with
      | true =>
        rw [hs, if_pos rfl] at hq
        refine jw_if_eq 21 rfl rfl (fun c1 => absurd c1 (by decide)) (fun c1 => ?_)
        refine js_iinc rfl rfl (nI_1 k) rfl (by decide) rfl ?_
        refine jw_goto 2 rfl rfl ?_
        exact ih (k + 1) (by omega) (by omega) (by omega) (by have e1 : k + 1 - p + sp_ln t e n (k + 1) = k - p + (sp_ln t e n (k + 1) + 1) := by omega
                                                              rw [e1]; exact hq)
      | false =>
        rw [hs] at hq
        refine jw_if_eq 21 rfl rfl (fun c1 => ?_) (fun c1 => absurd rfl c1)
        refine jw_iload_n rfl rfl ?_
        refine jw_iload_n rfl rfl ?_
        refine jw_isub rfl ?_
        rw [pk_sub hk]
        refine jw_ireturn rfl rfl rfl ?_
        exact hq
  refine jw_iload_n rfl rfl ?_
  refine js_istore_n rfl rfl (by decide) rfl ?_
  exact loop (e - p) p rfl (Nat.le_refl _) hp (by rw [Nat.sub_self, Nat.zero_add]; exact hq)
theorem cm_stands {g : jg_G} (hg : (jg_l g).stackTraces = false) {h : jh_H} {mo p e : Nat} {ar t : Nat → Nat} {w : Int64} {Q : jw_O → jh_H → Prop} (bl : List Nat) (hb : ∀ i, i < 8 → ((w >>> ((nI (8 * i)).toInt64 &&& 63)) &&& 255).toInt32 = nI (bl.getD i 0)) (hbl : ∀ i, i < 8 → bl.getD i 0 < 128) (hm : mo_ok h mo ar) (ht : mo_tx h ar t) (hp : p ≤ 1010) (he : e ≤ 1000) (hq : Q (.inl (some (.inl (sp_b (sp_st t e p (sp_wd bl 8)))))) h) : jw_C g 1 0 0 m_M_stands [.inr (.inr (some mo)), .inl (nI p), .inl (nI e), .inr (.inl w)] h Q := by
  refine jw_intro (ls := [some (.inr (.inr (some mo))), some (.inl (nI p)), some (.inl (nI e)), some (.inr (.inl w)), none, none, none, none]) (by decide) k_M_stands rfl (by simp [lo_fit, jv_c]) hg ?_
  have loop : ∀ n k, n ≤ 8 → k + n ≤ 1018 → Q (.inl (some (.inl (sp_b (sp_st t e k (sp_wd bl n)))))) h → jw_J g 1 m_M_stands jw_T0 7 [some (.inr (.inr (some mo))), some (.inl (nI p)), some (.inl (nI e)), some (.inr (.inl w)), none, some (.inl (nI k)), some (.inl (nI (8 * n) - 8)), none] [] h 0 0 Q := by
    intro n
    induction n with
    | zero =>
      intro k hn hk hq
      refine jw_iload rfl rfl ?_
      refine jw_if_lt 54 rfl rfl (fun c1 => ?_) (fun c1 => absurd (by decide) c1)
      refine js_iconst (x := 1) rfl rfl ?_
      refine jw_ireturn rfl rfl rfl ?_
      exact hq
    | succ n ih =>
      intro k hn hk hq
      have ei : nI (8 * (n + 1)) - 8 = nI (8 * n) := by
        have : nI (8 * (n + 1)) - nI 8 = nI (8 * (n + 1) - 8) := pk_sub (by omega)
        rw [show (8 : Int32) = nI 8 from rfl, this]; congr 1
      rw [ei]
      have hback : ∀ k', k' + n ≤ 1018 → Q (.inl (some (.inl (sp_b (sp_st t e k' (sp_wd bl n)))))) h → ∀ c : Int32, jw_J g 1 m_M_stands jw_T0 48 [some (.inr (.inr (some mo))), some (.inl (nI p)), some (.inl (nI e)), some (.inr (.inl w)), none, some (.inl (nI k')), some (.inl (nI (8 * n))), some (.inl c)] [] h 0 0 Q := by
        intro k' hk' hq' c
        refine js_iinc rfl rfl (show nI (8 * n) + Int32.ofInt (-8) = nI (8 * n) - 8 from by rw [Int32.sub_eq_add_neg]; rfl) rfl (by decide) rfl ?_
        refine jw_goto 7 rfl rfl ?_
        exact js_drop 7 rfl (ih k' (by omega) hk' hq')
      refine jw_iload rfl rfl ?_
      refine jw_if_lt 54 rfl rfl (fun c1 => absurd c1 (nI_pos (by omega))) (fun c1 => ?_)
      refine jw_lload_n rfl rfl ?_
      refine jw_iload rfl rfl ?_
      refine jw_lshr rfl ?_
      refine jw_ldc2 rfl q_M_192 ?_
      refine jw_land rfl ?_
      refine jw_l2i rfl ?_
      rw [hb n (by omega)]
      refine js_istore rfl rfl (by decide) rfl ?_
      refine jw_iload rfl rfl ?_
      rw [sp_wd] at hq
      have h128 := hbl n (by omega)
      refine jw_if_ne 31 rfl rfl (fun c2 => ?_) (fun c2 => ?_)
      · have hne : ¬ bl.getD n 0 = 0 := fun z => c2 (by rw [z]; rfl)
        rw [if_neg hne, sp_st] at hq
        refine jw_aload_n rfl rfl ?_
        refine jw_iload rfl rfl ?_
        refine jw_iload_n rfl rfl ?_
        refine js_call (As := [.inl (nI k), .inl (nI e)]) rfl l_M_at0 c_M_194 i_M_at0 s_M_at0 jc_o8 rfl (hm.1) rfl (cm_at0 hg hm ht (by omega) he ?_) (by decide) (Nat.le_of_ble_eq_true rfl) (by omega) (by omega) rfl
        refine jw_iload rfl rfl ?_
        have hat := sp_at_lt (p := k) ht he
        refine jw_icmp_eq 45 rfl rfl (fun c3 => ?_) (fun c3 => ?_)
        · have e3 : sp_at t k e = bl.getD n 0 := (nI_eq (by omega) (by omega)).mp c3
          rw [if_pos e3] at hq
          refine js_iinc rfl rfl (nI_1 k) rfl (by decide) rfl ?_
          exact hback (k + 1) (by omega) hq _
        · have e3 : ¬ sp_at t k e = bl.getD n 0 := fun z => c3 (by rw [z])
          rw [if_neg e3] at hq
          refine js_iconst (x := 0) rfl rfl ?_
          refine jw_ireturn rfl rfl rfl ?_
          exact hq
      · have hz : bl.getD n 0 = 0 := (nI_eq (b := 0) (by omega) (by omega)).mp c2
        rw [if_pos hz] at hq
        refine jw_goto 48 rfl rfl ?_
        exact hback k (by omega) hq _
  refine jw_iload_n rfl rfl ?_
  refine js_istore rfl rfl (by decide) rfl ?_
  refine js_bipush (x := 56) rfl rfl ?_
  refine js_istore rfl rfl (by decide) rfl ?_
  exact loop 8 p (Nat.le_refl _) (by omega) hq
end
section
/-! the model's words -/
def sw_ok (w : Int64) (wd : List Nat) : Prop := ∃ bl : List Nat, (∀ i, i < 8 → ((w >>> ((nI (8 * i)).toInt64 &&& 63)) &&& 255).toInt32 = nI (bl.getD i 0)) ∧ (∀ i, i < 8 → bl.getD i 0 < 128) ∧ sp_wd bl 8 = wd
def sp_o (r : Option Nat) : Int32 := match r with
  | none => -1
  | some k => nI k
theorem cm_st {g : jg_G} (hg : (jg_l g).stackTraces = false) {h : jh_H} {mo p e : Nat} {ar t : Nat → Nat} {w : Int64} {wd : List Nat} {Q : jw_O → jh_H → Prop} (hw : sw_ok w wd) (hm : mo_ok h mo ar) (ht : mo_tx h ar t) (hp : p ≤ 1010) (he : e ≤ 1000) (hq : Q (.inl (some (.inl (sp_b (sp_st t e p wd))))) h) : jw_C g 1 0 0 m_M_stands [.inr (.inr (some mo)), .inl (nI p), .inl (nI e), .inr (.inl w)] h Q := by
  obtain ⟨bl, h1, h2, rfl⟩ := hw
  exact cm_stands hg bl h1 h2 hm ht hp he hq
theorem sw_256 : sw_ok 31611 [123, 123] := ⟨[123, 123], by decide +kernel, by decide, by decide⟩
theorem sw_258 : sw_ok 8092539 [123, 123, 123] := ⟨[123, 123, 123], by decide +kernel, by decide, by decide⟩
theorem sw_260 : sw_ok 8224125 [125, 125, 125] := ⟨[125, 125, 125], by decide +kernel, by decide, by decide⟩
theorem sw_262 : sw_ok 32125 [125, 125] := ⟨[125, 125], by decide +kernel, by decide, by decide⟩
theorem sw_218 : sw_ok 7696416 [117, 112, 32] := ⟨[32, 112, 117], by decide +kernel, by decide, by decide⟩
theorem sw_220 : sw_ok 1818586656 [108, 101, 110, 32] := ⟨[32, 110, 101, 108], by decide +kernel, by decide, by decide⟩
theorem sw_222 : sw_ok 1852797984 [110, 111, 116, 32] := ⟨[32, 116, 111, 110], by decide +kernel, by decide, by decide⟩
theorem sw_224 : sw_ok 1633969184 [97, 100, 100, 32] := ⟨[32, 100, 100, 97], by decide +kernel, by decide, by decide⟩
theorem sw_226 : sw_ok 6648096 [101, 113, 32] := ⟨[32, 113, 101], by decide +kernel, by decide, by decide⟩
theorem sw_228 : sw_ok 6386720 [97, 116, 32] := ⟨[32, 116, 97], by decide +kernel, by decide, by decide⟩
theorem sw_197 : sw_ok 70821567817080 [64, 105, 110, 100, 101, 120] := ⟨[120, 101, 100, 110, 105, 64], by decide +kernel, by decide, by decide⟩
theorem sw_203 : sw_ok 70808599950196 [64, 102, 105, 114, 115, 116] := ⟨[116, 115, 114, 105, 102, 64], by decide +kernel, by decide, by decide⟩
theorem sw_205 : sw_ok 3026479 [46, 46, 47] := ⟨[47, 46, 46], by decide +kernel, by decide, by decide⟩
theorem sw_210 : sw_ok 1952999795 [116, 104, 105, 115] := ⟨[115, 105, 104, 116], by decide +kernel, by decide, by decide⟩
theorem sw_242 : sw_ok 594109984 [35, 105, 102, 32] := ⟨[32, 102, 105, 35], by decide +kernel, by decide, by decide⟩
theorem sw_244 : sw_ok 2550551843551838208 [35, 101, 97, 99, 104, 32] := ⟨[0, 0, 32, 104, 99, 97, 101, 35], by decide +kernel, by decide, by decide⟩
theorem sw_246 : sw_ok 2555627262240096256 [35, 119, 105, 116, 104, 32] := ⟨[0, 0, 32, 104, 116, 105, 119, 35], by decide +kernel, by decide, by decide⟩
theorem sw_248 : sw_ok 1701606245 [101, 108, 115, 101] := ⟨[101, 115, 108, 101], by decide +kernel, by decide, by decide⟩
theorem sw_250 : sw_ok 3107174 [47, 105, 102] := ⟨[102, 105, 47], by decide +kernel, by decide, by decide⟩
theorem sw_252 : sw_ok 203564344168 [47, 101, 97, 99, 104] := ⟨[104, 99, 97, 101, 47], by decide +kernel, by decide, by decide⟩
theorem sw_254 : sw_ok 203866862696 [47, 119, 105, 116, 104] := ⟨[104, 116, 105, 119, 47], by decide +kernel, by decide, by decide⟩
theorem sw_352 : sw_ok 164843319355 [38, 97, 109, 112, 59] := ⟨[59, 112, 109, 97, 38], by decide +kernel, by decide, by decide⟩
theorem sw_354 : sw_ok 644641851 [38, 108, 116, 59] := ⟨[59, 116, 108, 38], by decide +kernel, by decide, by decide⟩
theorem sw_356 : sw_ok 644314171 [38, 103, 116, 59] := ⟨[59, 116, 103, 38], by decide +kernel, by decide, by decide⟩
theorem sw_358 : sw_ok 42268743398459 [38, 113, 117, 111, 116, 59] := ⟨[59, 116, 111, 117, 113, 38], by decide +kernel, by decide, by decide⟩
theorem sp_b0 {b : Bool} (h : sp_b b = 0) : b = false := by cases b; rfl; exact absurd h (by decide)
theorem sp_b1 {b : Bool} (h : ¬ sp_b b = 0) : b = true := by cases b; exact absurd rfl h; rfl
theorem sp_step_le (t : Nat → Nat) {k e : Nat} (h : sp_at t k e = 46) : k + (1 + sp_step t k e) ≤ e ∨ sp_step t k e = 0 := by
  have hk : k < e := by
    rcases Nat.lt_or_ge k e with q | q
    · exact q
    · have : sp_at t k e = 0 := by simp [sp_at, Nat.not_lt.mpr q]
      omega
  have h1 := sp_letters_le t (p := k + 1) (e := e) hk
  rw [sp_step]
  split
  case isTrue hd =>
    left
    have : k + 1 < e := by
      rcases Nat.lt_or_ge (k + 1) e with q | q
      · exact q
      · have e0 : sp_at t (k + 1) e = 0 := by simp [sp_at, Nat.not_lt.mpr q]
        have := hd.2
        rw [e0] at this
        exact absurd this (by decide)
    omega
  case isFalse hd => left; omega
theorem sp_tail_le (t : Nat → Nat) (e : Nat) : ∀ n k r, k ≤ e → sp_tail t e n k = some r → r ≤ e := by
  intro n
  induction n with
  | zero => intro k r hk h; cases h; exact hk
  | succ n ih =>
    intro k r hk h
    rw [sp_tail] at h
    split at h
    case isTrue h0 =>
      split at h
      case isTrue h1 => cases h
      case isFalse h1 =>
        rcases sp_step_le t h0 with q | q
        · exact ih _ r q h
        · exact absurd (Or.inl (by omega)) h1
    case isFalse h0 => cases h; exact hk
theorem sp_pathEnd_le (t : Nat → Nat) {p e r : Nat} (hp : p ≤ e) (h : sp_pathEnd t p e = some r) : r ≤ e := by
  rw [sp_pathEnd] at h
  have hu := sp_up_le t e (e - p) p hp
  split at h
  case isTrue h0 =>
    cases h
    rcases h0 with h0 | h0
    · rcases sp_st_le t e _ p (by decide) h0 (Or.inl hp) with q | q
      · exact q
      · cases q
    · rcases sp_st_le t e _ p (by decide) h0 (Or.inl hp) with q | q
      · exact q
      · cases q
  case isFalse h0 =>
    have hl := sp_letters_le t hu.1
    split at h
    case isTrue h1 => cases h
    case isFalse h1 =>
      split at h
      case isTrue h2 => cases h; have := h2.1; omega
      case isFalse h2 => exact sp_tail_le t e _ _ r hl h
theorem sp_at_lt2 {t : Nat → Nat} {k e c : Nat} (h : sp_at t k e = c) (hc : c ≠ 0) : k < e := by
  rcases Nat.lt_or_ge k e with q | q
  · exact q
  · have : sp_at t k e = 0 := by simp [sp_at, Nat.not_lt.mpr q]
    omega
theorem sp_digits_le (t : Nat → Nat) (e : Nat) : ∀ n k, k ≤ e → sp_digits t e n k ≤ e := by
  intro n
  induction n with
  | zero => intro k h; exact h
  | succ n ih =>
    intro k h
    rw [sp_digits]
    split
    case isTrue h0 =>
      have : k < e := by
        rcases Nat.lt_or_ge k e with q | q
        · exact q
        · have e0 : sp_at t k e = 0 := by simp [sp_at, Nat.not_lt.mpr q]
          rw [e0] at h0; exact absurd h0 (by decide)
      exact ih (k + 1) this
    case isFalse h0 => exact h
theorem sp_operandEnd_le (t : Nat → Nat) {p e r : Nat} (hp : p ≤ e) (h : sp_operandEnd t p e = some r) : r ≤ e := by
  rw [sp_operandEnd] at h
  split at h
  case isTrue h0 =>
    split at h
    case isTrue h1 => cases h; have := sp_at_lt2 h1 (by decide); omega
    case isFalse h1 => cases h
  case isFalse h0 =>
    split at h
    case isTrue h1 => cases h; exact sp_digits_le t e 5 p hp
    case isFalse h1 => exact sp_pathEnd_le t hp h
theorem cm_helper {g : jg_G} (hg : (jg_l g).stackTraces = false) {h : jh_H} {mo p e : Nat} {ar t : Nat → Nat} {Q : jw_O → jh_H → Prop} (hm : mo_ok h mo ar) (ht : mo_tx h ar t) (hp : p ≤ e) (he : e ≤ 1000) (hq : Q (.inl (some (.inl (nI (sp_helper t p e))))) h) : jw_C g 2 0 0 m_M_helper [.inr (.inr (some mo)), .inl (nI p), .inl (nI e)] h Q := by
  refine jw_intro (ls := [some (.inr (.inr (some mo))), some (.inl (nI p)), some (.inl (nI e))]) (by decide) k_M_helper rfl (by simp [lo_fit, jv_c]) hg ?_
  rw [sp_helper] at hq
  refine jw_aload_n rfl rfl ?_
  refine jw_iload_n rfl rfl ?_
  refine jw_iload_n rfl rfl ?_
  refine jw_ldc2 rfl q_M_218 ?_
  refine js_call (As := [.inl (nI p), .inl (nI e), .inr (.inl _)]) rfl l_M_stands c_M_199 i_M_stands s_M_stands jc_o8 rfl (hm.1) rfl (cm_st hg sw_218 hm ht (by omega) he ?_) (by decide) (Nat.le_of_ble_eq_true rfl) (by omega) (by omega) rfl
  refine jw_if_eq 14 rfl rfl (fun c0 => ?_) (fun c0 => ?_)
  rotate_left
  · rw [if_pos (sp_b1 c0)] at hq
    refine js_iconst (x := 1) rfl rfl ?_
    refine jw_ireturn rfl rfl rfl ?_
    exact hq
  rw [if_neg (by rw [sp_b0 c0]; decide)] at hq
  refine jw_aload_n rfl rfl ?_
  refine jw_iload_n rfl rfl ?_
  refine jw_iload_n rfl rfl ?_
  refine jw_ldc2 rfl q_M_220 ?_
  refine js_call (As := [.inl (nI p), .inl (nI e), .inr (.inl _)]) rfl l_M_stands c_M_199 i_M_stands s_M_stands jc_o8 rfl (hm.1) rfl (cm_st hg sw_220 hm ht (by omega) he ?_) (by decide) (Nat.le_of_ble_eq_true rfl) (by omega) (by omega) rfl
  refine jw_if_eq 28 rfl rfl (fun c14 => ?_) (fun c14 => ?_)
  rotate_left
  · rw [if_pos (sp_b1 c14)] at hq
    refine js_iconst (x := 2) rfl rfl ?_
    refine jw_ireturn rfl rfl rfl ?_
    exact hq
  rw [if_neg (by rw [sp_b0 c14]; decide)] at hq
  refine jw_aload_n rfl rfl ?_
  refine jw_iload_n rfl rfl ?_
  refine jw_iload_n rfl rfl ?_
  refine jw_ldc2 rfl q_M_222 ?_
  refine js_call (As := [.inl (nI p), .inl (nI e), .inr (.inl _)]) rfl l_M_stands c_M_199 i_M_stands s_M_stands jc_o8 rfl (hm.1) rfl (cm_st hg sw_222 hm ht (by omega) he ?_) (by decide) (Nat.le_of_ble_eq_true rfl) (by omega) (by omega) rfl
  refine jw_if_eq 42 rfl rfl (fun c28 => ?_) (fun c28 => ?_)
  rotate_left
  · rw [if_pos (sp_b1 c28)] at hq
    refine js_iconst (x := 3) rfl rfl ?_
    refine jw_ireturn rfl rfl rfl ?_
    exact hq
  rw [if_neg (by rw [sp_b0 c28]; decide)] at hq
  refine jw_aload_n rfl rfl ?_
  refine jw_iload_n rfl rfl ?_
  refine jw_iload_n rfl rfl ?_
  refine jw_ldc2 rfl q_M_224 ?_
  refine js_call (As := [.inl (nI p), .inl (nI e), .inr (.inl _)]) rfl l_M_stands c_M_199 i_M_stands s_M_stands jc_o8 rfl (hm.1) rfl (cm_st hg sw_224 hm ht (by omega) he ?_) (by decide) (Nat.le_of_ble_eq_true rfl) (by omega) (by omega) rfl
  refine jw_if_eq 56 rfl rfl (fun c42 => ?_) (fun c42 => ?_)
  rotate_left
  · rw [if_pos (sp_b1 c42)] at hq
    refine js_iconst (x := 4) rfl rfl ?_
    refine jw_ireturn rfl rfl rfl ?_
    exact hq
  rw [if_neg (by rw [sp_b0 c42]; decide)] at hq
  refine jw_aload_n rfl rfl ?_
  refine jw_iload_n rfl rfl ?_
  refine jw_iload_n rfl rfl ?_
  refine jw_ldc2 rfl q_M_226 ?_
  refine js_call (As := [.inl (nI p), .inl (nI e), .inr (.inl _)]) rfl l_M_stands c_M_199 i_M_stands s_M_stands jc_o8 rfl (hm.1) rfl (cm_st hg sw_226 hm ht (by omega) he ?_) (by decide) (Nat.le_of_ble_eq_true rfl) (by omega) (by omega) rfl
  refine jw_if_eq 70 rfl rfl (fun c56 => ?_) (fun c56 => ?_)
  rotate_left
  · rw [if_pos (sp_b1 c56)] at hq
    refine js_iconst (x := 5) rfl rfl ?_
    refine jw_ireturn rfl rfl rfl ?_
    exact hq
  rw [if_neg (by rw [sp_b0 c56]; decide)] at hq
  refine jw_aload_n rfl rfl ?_
  refine jw_iload_n rfl rfl ?_
  refine jw_iload_n rfl rfl ?_
  refine jw_ldc2 rfl q_M_228 ?_
  refine js_call (As := [.inl (nI p), .inl (nI e), .inr (.inl _)]) rfl l_M_stands c_M_199 i_M_stands s_M_stands jc_o8 rfl (hm.1) rfl (cm_st hg sw_228 hm ht (by omega) he ?_) (by decide) (Nat.le_of_ble_eq_true rfl) (by omega) (by omega) rfl
  refine jw_if_eq 87 rfl rfl (fun c70 => ?_) (fun c70 => ?_)
  · rw [if_neg (by rw [sp_b0 c70]; decide)] at hq
    refine js_iconst (x := 0) rfl rfl ?_
    refine jw_ireturn rfl rfl rfl ?_
    exact hq
  · rw [if_pos (sp_b1 c70)] at hq
    refine js_bipush (x := 6) rfl rfl ?_
    refine jw_goto 88 rfl rfl ?_
    refine jw_ireturn rfl rfl rfl ?_
    exact hq
theorem cm_nameSize {g : jg_G} (hg : (jg_l g).stackTraces = false) {h : jh_H} {mo n : Nat} {Q : jw_O → jh_H → Prop} (hn : n < 100) (hq : Q (.inl (some (.inl (nI (sp_hs n))))) h) : jw_C g 0 0 0 m_M_nameSize [.inr (.inr (some mo)), .inl (nI n)] h Q := by
  refine jw_intro (ls := [some (.inr (.inr (some mo))), some (.inl (nI n))]) (by decide) k_M_nameSize rfl (by simp [lo_fit, jv_c]) hg ?_
  rw [sp_hs] at hq
  refine jw_iload_n rfl rfl ?_
  refine js_iconst (x := 1) rfl rfl ?_
  refine jw_icmp_eq 10 rfl rfl (fun c1 => ?_) (fun c1 => ?_)
  · have h1 : n = 1 := (nI_eq (b := 1) (by omega) (by omega)).mp c1
    rw [if_pos (Or.inl h1)] at hq
    refine js_iconst (x := 3) rfl rfl ?_
    refine jw_goto 15 rfl rfl ?_
    refine jw_ireturn rfl rfl rfl ?_
    exact hq
  · have h1 : ¬ n = 1 := fun z => c1 (by rw [z]; rfl)
    refine jw_iload_n rfl rfl ?_
    refine js_iconst (x := 4) rfl rfl ?_
    refine jw_icmp_le 14 rfl rfl (fun c2 => ?_) (fun c2 => ?_)
    · have h2 : n ≤ 4 := (nI_leI (b := 4) (by omega) (by omega)).mp c2
      rw [if_neg (by omega)] at hq
      refine js_iconst (x := 4) rfl rfl ?_
      refine jw_ireturn rfl rfl rfl ?_
      exact hq
    · have h2 : ¬ n ≤ 4 := fun z => c2 ((nI_leI (b := 4) (by omega) (by omega)).mpr z)
      rw [if_pos (Or.inr (by omega))] at hq
      refine js_iconst (x := 3) rfl rfl ?_
      refine jw_goto 15 rfl rfl ?_
      refine jw_ireturn rfl rfl rfl ?_
      exact hq
end
section
/-! the model's paths, operands, expressions -/
set_option maxHeartbeats 4000000 in
set_option maxRecDepth 100000 in
theorem cm_pathEnd {g : jg_G} (hg : (jg_l g).stackTraces = false) {h : jh_H} {mo p e : Nat} {ar t : Nat → Nat} {Q : jw_O → jh_H → Prop} (hm : mo_ok h mo ar) (ht : mo_tx h ar t) (hp : p ≤ e) (he : e ≤ 1000) (hq : Q (.inl (some (.inl (sp_o (sp_pathEnd t p e))))) h) : jw_C g 3 0 0 m_M_pathEnd [.inr (.inr (some mo)), .inl (nI p), .inl (nI e)] h Q := by
  refine jw_intro (ls := [some (.inr (.inr (some mo))), some (.inl (nI p)), some (.inl (nI e)), none, none]) (by decide) k_M_pathEnd rfl (by simp [lo_fit, jv_c]) hg ?_
  have tail : ∀ n k, k ≤ e → e ≤ k + n → Q (.inl (some (.inl (sp_o (sp_tail t e n k))))) h → jw_J g 3 m_M_pathEnd jw_T0 99 [some (.inr (.inr (some mo))), some (.inl (nI p)), some (.inl (nI e)), some (.inl (nI k)), none] [] h 0 0 Q := by
    intro n
    induction n with
    | zero =>
      intro k hk hn hq
      have e0 : sp_at t k e = 0 := by simp [sp_at]; omega
      refine jw_aload_n rfl rfl ?_
      refine jw_iload_n rfl rfl ?_
      refine jw_iload_n rfl rfl ?_
      refine js_call (As := [.inl (nI k), .inl (nI e)]) rfl l_M_at0 c_M_194 i_M_at0 s_M_at0 jc_o8 rfl (hm.1) rfl (cm_at0 hg hm ht (by omega) he ?_) (by decide) (Nat.le_of_ble_eq_true rfl) (by omega) (by omega) rfl
      refine js_bipush (x := 46) rfl rfl ?_
      rw [e0]
      refine jw_icmp_ne 168 rfl rfl (fun c1 => ?_) (fun c1 => absurd c1 (by decide))
      refine jw_iload_n rfl rfl ?_
      refine jw_ireturn rfl rfl rfl ?_
      exact hq
    | succ n ih =>
      intro k hk hn hq
      have hat := sp_at_lt (p := k) ht he
      rw [sp_tail] at hq
      refine jw_aload_n rfl rfl ?_
      refine jw_iload_n rfl rfl ?_
      refine jw_iload_n rfl rfl ?_
      refine js_call (As := [.inl (nI k), .inl (nI e)]) rfl l_M_at0 c_M_194 i_M_at0 s_M_at0 jc_o8 rfl (hm.1) rfl (cm_at0 hg hm ht (by omega) he ?_) (by decide) (Nat.le_of_ble_eq_true rfl) (by omega) (by omega) rfl
      refine js_bipush (x := 46) rfl rfl ?_
      refine jw_icmp_ne 168 rfl rfl (fun c1 => ?_) (fun c1 => ?_)
      · have h1 : ¬ sp_at t k e = 46 := fun z => c1 (by rw [z]; rfl)
        rw [if_neg h1] at hq
        refine jw_iload_n rfl rfl ?_
        refine jw_ireturn rfl rfl rfl ?_
        exact hq
      · have h1 : sp_at t k e = 46 := (nI_eq (b := 46) (by omega) (by omega)).mp c1
        have hke := sp_at_lt2 h1 (by decide)
        rw [if_pos h1] at hq
        have hle := sp_letters_le t (p := k + 1) (e := e) hke
        have hat1 := sp_at_lt (p := k + 1) ht he
        have join : ∀ s, s = sp_step t k e → jw_J g 3 m_M_pathEnd jw_T0 143 [some (.inr (.inr (some mo))), some (.inl (nI p)), some (.inl (nI e)), some (.inl (nI k)), some (.inl (nI s))] [] h 0 0 Q := by
          intro s hs
          rw [← hs] at hq
          have hs1 : s ≤ 1000 := by
            rcases sp_step_le t h1 with q | q <;> omega
          refine jw_iload rfl rfl ?_
          refine js_iconst (x := 1) rfl rfl ?_
          refine jw_icmp_lt 156 rfl rfl (fun c2 => ?_) (fun c2 => ?_)
          · have h2 : s < 1 := (nI_ltI (b := 1) (by omega) (by omega)).mp c2
            rw [if_pos (Or.inl h2)] at hq
            refine js_iconst (x := (-1)) rfl rfl ?_
            refine jw_ireturn rfl rfl rfl ?_
            exact hq
          · have h2 : ¬ s < 1 := fun z => c2 ((nI_ltI (b := 1) (by omega) (by omega)).mpr z)
            refine jw_iload rfl rfl ?_
            refine js_bipush (x := 8) rfl rfl ?_
            refine jw_icmp_le 158 rfl rfl (fun c3 => ?_) (fun c3 => ?_)
            · have h3 : s ≤ 8 := (nI_leI (b := 8) (by omega) (by omega)).mp c3
              rw [if_neg (by omega)] at hq
              refine jw_iload_n rfl rfl ?_
              refine js_iconst (x := 1) rfl rfl ?_
              refine jw_iload rfl rfl ?_
              refine jw_iadd rfl ?_
              rw [show (1 : Int32) + nI s = nI (1 + s) from nI_add 1 s]
              refine jw_iadd rfl ?_
              rw [nI_add k (1 + s)]
              refine js_istore_n rfl rfl (by decide) rfl ?_
              refine jw_goto 99 rfl rfl ?_
              refine js_drop 4 rfl (ih (k + (1 + s)) ?_ (by omega) hq)
              rcases sp_step_le t h1 with q | q <;> omega
            · have h3 : ¬ s ≤ 8 := fun z => c3 ((nI_leI (b := 8) (by omega) (by omega)).mpr z)
              rw [if_pos (Or.inr (by omega))] at hq
              refine js_iconst (x := (-1)) rfl rfl ?_
              refine jw_ireturn rfl rfl rfl ?_
              exact hq
        refine jw_aload_n rfl rfl ?_
        refine jw_iload_n rfl rfl ?_
        refine js_iconst (x := 1) rfl rfl ?_
        refine jw_iadd rfl ?_
        rw [show nI k + 1 = nI (k + 1) from nI_1 k]
        refine jw_iload_n rfl rfl ?_
        refine js_call (As := [.inl (nI (k + 1)), .inl (nI e)]) rfl l_M_letters c_M_207 i_M_letters s_M_letters jc_o8 rfl (hm.1) rfl (cm_letters hg hm ht (by omega) he ?_) (by decide) (Nat.le_of_ble_eq_true rfl) (by omega) (by omega) rfl
        refine js_istore rfl rfl (by decide) rfl ?_
        refine jw_iload rfl rfl ?_
        refine jw_if_ne 143 rfl rfl (fun c2 => ?_) (fun c2 => ?_)
        · have h2 : ¬ sp_letters t (k + 1) e = 0 := fun z => c2 (by rw [z]; rfl)
          exact join _ (by rw [sp_step, if_neg (fun z => h2 z.1)])
        · have h2 : sp_letters t (k + 1) e = 0 := (nI_eq (b := 0) (by omega) (by omega)).mp c2
          refine jw_aload_n rfl rfl ?_
          refine jw_aload_n rfl rfl ?_
          refine jw_iload_n rfl rfl ?_
          refine js_iconst (x := 1) rfl rfl ?_
          refine jw_iadd rfl ?_
          rw [show nI k + 1 = nI (k + 1) from nI_1 k]
          refine jw_iload_n rfl rfl ?_
          refine js_call (As := [.inl (nI (k + 1)), .inl (nI e)]) rfl l_M_at0 c_M_194 i_M_at0 s_M_at0 jc_o8 rfl (hm.1) rfl (cm_at0 hg hm ht (by omega) he ?_) (by decide) (Nat.le_of_ble_eq_true rfl) (by omega) (by omega) rfl
          refine js_call (As := [.inl (nI (sp_at t (k + 1) e))]) rfl l_M_digit c_M_212 i_M_digit s_M_digit jc_o8 rfl (hm.1) rfl (cm_digit hg (by omega) ?_) (by decide) (Nat.le_of_ble_eq_true rfl) (by omega) (by omega) rfl
          refine jw_if_eq 143 rfl rfl (fun c3 => ?_) (fun c3 => ?_)
          · exact join _ (by rw [sp_step, if_neg (fun z => by rw [sp_b0 c3] at z; exact absurd z.2 (by decide))])
          · refine js_iconst (x := 1) rfl rfl ?_
            refine js_istore rfl rfl (by decide) rfl ?_
            exact join 1 (by rw [sp_step, if_pos ⟨h2, sp_b1 c3⟩])
  rw [sp_pathEnd] at hq
  have ups : ∀ n k, k ≤ e → e ≤ k + n → (∀ k', k' = sp_up t e n k → jw_J g 3 m_M_pathEnd jw_T0 49 [some (.inr (.inr (some mo))), some (.inl (nI p)), some (.inl (nI e)), some (.inl (nI k')), none] [] h 0 0 Q) → jw_J g 3 m_M_pathEnd jw_T0 31 [some (.inr (.inr (some mo))), some (.inl (nI p)), some (.inl (nI e)), some (.inl (nI k)), none] [] h 0 0 Q := by
    intro n
    induction n with
    | zero =>
      intro k hk hn kk
      have e0 : sp_st t e k [46, 46, 47] = false := by
        have : sp_at t k e = 0 := by simp [sp_at]; omega
        rw [sp_st, this]; rfl
      refine jw_aload_n rfl rfl ?_
      refine jw_iload_n rfl rfl ?_
      refine jw_iload_n rfl rfl ?_
      refine jw_ldc2 rfl q_M_205 ?_
      refine js_call (As := [.inl (nI k), .inl (nI e), .inr (.inl _)]) rfl l_M_stands c_M_199 i_M_stands s_M_stands jc_o8 rfl (hm.1) rfl (cm_st hg sw_205 hm ht (by omega) he ?_) (by decide) (Nat.le_of_ble_eq_true rfl) (by omega) (by omega) rfl
      rw [e0]
      refine jw_if_eq 49 rfl rfl (fun c1 => ?_) (fun c1 => absurd rfl c1)
      exact kk k rfl
    | succ n ih =>
      intro k hk hn kk
      rw [sp_up] at kk
      refine jw_aload_n rfl rfl ?_
      refine jw_iload_n rfl rfl ?_
      refine jw_iload_n rfl rfl ?_
      refine jw_ldc2 rfl q_M_205 ?_
      refine js_call (As := [.inl (nI k), .inl (nI e), .inr (.inl _)]) rfl l_M_stands c_M_199 i_M_stands s_M_stands jc_o8 rfl (hm.1) rfl (cm_st hg sw_205 hm ht (by omega) he ?_) (by decide) (Nat.le_of_ble_eq_true rfl) (by omega) (by omega) rfl
      refine jw_if_eq 49 rfl rfl (fun c1 => ?_) (fun c1 => ?_)
      · rw [if_neg (by rw [sp_b0 c1]; decide)] at kk
        exact kk k rfl
      · have h1 := sp_b1 c1
        rw [if_pos h1] at kk
        have h2 : k + 3 ≤ e := by
          rcases sp_st_le t e [46, 46, 47] k (by decide) h1 (Or.inl hk) with q | q
          · exact q
          · cases q
        refine js_iinc rfl rfl (show nI k + Int32.ofInt 3 = nI (k + 3) from nI_add k 3) rfl (by decide) rfl ?_
        refine jw_goto 31 rfl rfl ?_
        exact ih (k + 3) h2 (by omega) kk
  have six : sp_o (some (p + 6)) = nI (p + 6) := rfl
  refine jw_aload_n rfl rfl ?_
  refine jw_iload_n rfl rfl ?_
  refine jw_iload_n rfl rfl ?_
  refine jw_ldc2 rfl q_M_197 ?_
  refine js_call (As := [.inl (nI p), .inl (nI e), .inr (.inl _)]) rfl l_M_stands c_M_199 i_M_stands s_M_stands jc_o8 rfl (hm.1) rfl (cm_st hg sw_197 hm ht (by omega) he ?_) (by decide) (Nat.le_of_ble_eq_true rfl) (by omega) (by omega) rfl
  have at24 : Q (.inl (some (.inl (nI (p + 6))))) h → jw_J g 3 m_M_pathEnd jw_T0 24 [some (.inr (.inr (some mo))), some (.inl (nI p)), some (.inl (nI e)), none, none] [] h 0 0 Q := by
    intro hq
    refine jw_iload_n rfl rfl ?_
    refine js_bipush (x := 6) rfl rfl ?_
    refine jw_iadd rfl ?_
    rw [show nI p + 6 = nI (p + 6) from nI_add p 6]
    refine jw_ireturn rfl rfl rfl ?_
    exact hq
  refine jw_if_ne 24 rfl rfl (fun c1 => ?_) (fun c1 => ?_)
  · rw [if_pos (Or.inl (sp_b1 c1))] at hq
    exact at24 hq
  refine jw_aload_n rfl rfl ?_
  refine jw_iload_n rfl rfl ?_
  refine jw_iload_n rfl rfl ?_
  refine jw_ldc2 rfl q_M_203 ?_
  refine js_call (As := [.inl (nI p), .inl (nI e), .inr (.inl _)]) rfl l_M_stands c_M_199 i_M_stands s_M_stands jc_o8 rfl (hm.1) rfl (cm_st hg sw_203 hm ht (by omega) he ?_) (by decide) (Nat.le_of_ble_eq_true rfl) (by omega) (by omega) rfl
  refine jw_if_eq 29 rfl rfl (fun c2 => ?_) (fun c2 => ?_)
  rotate_left
  · rw [if_pos (Or.inr (sp_b1 c2))] at hq
    exact at24 hq
  rw [if_neg (by rw [sp_b0 c1, sp_b0 c2]; decide)] at hq
  refine jw_iload_n rfl rfl ?_
  refine js_istore_n rfl rfl (by decide) rfl ?_
  refine ups (e - p) p hp (by omega) (fun k hk => ?_)
  rw [← hk] at hq
  have hu := sp_up_le t e (e - p) p hp
  rw [← hk] at hu
  have hl := sp_letters_le t hu.1
  refine jw_aload_n rfl rfl ?_
  refine jw_iload_n rfl rfl ?_
  refine jw_iload_n rfl rfl ?_
  refine js_call (As := [.inl (nI k), .inl (nI e)]) rfl l_M_letters c_M_207 i_M_letters s_M_letters jc_o8 rfl (hm.1) rfl (cm_letters hg hm ht (by omega) he ?_) (by decide) (Nat.le_of_ble_eq_true rfl) (by omega) (by omega) rfl
  refine js_istore rfl rfl (by decide) rfl ?_
  refine jw_iload rfl rfl ?_
  refine js_iconst (x := 1) rfl rfl ?_
  have at70 : Q (.inl (some (.inl (-1)))) h → jw_J g 3 m_M_pathEnd jw_T0 70 [some (.inr (.inr (some mo))), some (.inl (nI p)), some (.inl (nI e)), some (.inl (nI k)), some (.inl (nI (sp_letters t k e)))] [] h 0 0 Q := by
    intro hq
    refine js_iconst (x := (-1)) rfl rfl ?_
    refine jw_ireturn rfl rfl rfl ?_
    exact hq
  refine jw_icmp_lt 70 rfl rfl (fun c3 => ?_) (fun c3 => ?_)
  · rw [if_pos (Or.inl ((nI_ltI (b := 1) (by omega) (by omega)).mp c3))] at hq
    exact at70 hq
  have h3 : ¬ sp_letters t k e < 1 := fun z => c3 ((nI_ltI (b := 1) (by omega) (by omega)).mpr z)
  refine jw_iload rfl rfl ?_
  refine js_bipush (x := 8) rfl rfl ?_
  refine jw_icmp_le 72 rfl rfl (fun c4 => ?_) (fun c4 => ?_)
  rotate_left
  · have h4 : ¬ sp_letters t k e ≤ 8 := fun z => c4 ((nI_leI (b := 8) (by omega) (by omega)).mpr z)
    rw [if_pos (Or.inr (by omega))] at hq
    exact at70 hq
  have h4 : sp_letters t k e ≤ 8 := (nI_leI (b := 8) (by omega) (by omega)).mp c4
  rw [if_neg (by omega)] at hq
  have at94 : Q (.inl (some (.inl (sp_o (sp_tail t e (e - p) (k + sp_letters t k e)))))) h → jw_J g 3 m_M_pathEnd jw_T0 94 [some (.inr (.inr (some mo))), some (.inl (nI p)), some (.inl (nI e)), some (.inl (nI k)), some (.inl (nI (sp_letters t k e)))] [] h 0 0 Q := by
    intro hq
    refine jw_iload_n rfl rfl ?_
    refine jw_iload rfl rfl ?_
    refine jw_iadd rfl ?_
    rw [nI_add]
    refine js_istore_n rfl rfl (by decide) rfl ?_
    exact js_drop 4 rfl (tail (e - p) _ (by omega) (by omega) hq)
  refine jw_iload rfl rfl ?_
  refine js_iconst (x := 4) rfl rfl ?_
  refine jw_icmp_ne 94 rfl rfl (fun c5 => ?_) (fun c5 => ?_)
  · have h5 : ¬ sp_letters t k e = 4 := fun z => c5 (by rw [z]; rfl)
    rw [if_neg (fun z => h5 z.1)] at hq
    exact at94 hq
  · have h5 : sp_letters t k e = 4 := (nI_eq (b := 4) (by omega) (by omega)).mp c5
    refine jw_aload_n rfl rfl ?_
    refine jw_iload_n rfl rfl ?_
    refine jw_iload_n rfl rfl ?_
    refine jw_ldc2 rfl q_M_210 ?_
    refine js_call (As := [.inl (nI k), .inl (nI e), .inr (.inl _)]) rfl l_M_stands c_M_199 i_M_stands s_M_stands jc_o8 rfl (hm.1) rfl (cm_st hg sw_210 hm ht (by omega) he ?_) (by decide) (Nat.le_of_ble_eq_true rfl) (by omega) (by omega) rfl
    refine jw_if_eq 94 rfl rfl (fun c6 => ?_) (fun c6 => ?_)
    · rw [if_neg (fun z => by rw [sp_b0 c6] at z; exact absurd z.2 (by decide))] at hq
      exact at94 hq
    · rw [if_pos ⟨h5, sp_b1 c6⟩] at hq
      refine jw_iload_n rfl rfl ?_
      refine js_iconst (x := 4) rfl rfl ?_
      refine jw_iadd rfl ?_
      rw [show nI k + 4 = nI (k + 4) from nI_add k 4]
      refine jw_ireturn rfl rfl rfl ?_
      exact hq
end
section
/-! operands, expressions -/
theorem sp_digits_cnt (t : Nat → Nat) (e : Nat) : ∀ n k, sp_digits t e n k ≤ k + n := by
  intro n
  induction n with
  | zero => intro k; exact Nat.le_refl _
  | succ n ih =>
    intro k
    rw [sp_digits]
    split
    · have := ih (k + 1); omega
    · omega
set_option maxHeartbeats 4000000 in
set_option maxRecDepth 100000 in
theorem cm_operandEnd {g : jg_G} (hg : (jg_l g).stackTraces = false) {h : jh_H} {mo p e : Nat} {ar t : Nat → Nat} {Q : jw_O → jh_H → Prop} (hm : mo_ok h mo ar) (ht : mo_tx h ar t) (hp : p ≤ e) (he : e ≤ 1000) (hq : Q (.inl (some (.inl (sp_o (sp_operandEnd t p e))))) h) : jw_C g 4 0 0 m_M_operandEnd [.inr (.inr (some mo)), .inl (nI p), .inl (nI e)] h Q := by
  refine jw_intro (ls := [some (.inr (.inr (some mo))), some (.inl (nI p)), some (.inl (nI e)), none, none]) (by decide) k_M_operandEnd rfl (by simp [lo_fit, jv_c]) hg ?_
  rw [sp_operandEnd] at hq
  have hat := sp_at_lt (p := p) ht he
  refine jw_aload_n rfl rfl ?_
  refine jw_iload_n rfl rfl ?_
  refine jw_iload_n rfl rfl ?_
  refine js_call (As := [.inl (nI p), .inl (nI e)]) rfl l_M_at0 c_M_194 i_M_at0 s_M_at0 jc_o8 rfl (hm.1) rfl (cm_at0 hg hm ht (by omega) he ?_) (by decide) (Nat.le_of_ble_eq_true rfl) (by omega) (by omega) rfl
  refine js_istore_n rfl rfl (by decide) rfl ?_
  refine jw_iload_n rfl rfl ?_
  refine js_istore rfl rfl (by decide) rfl ?_
  refine jw_iload_n rfl rfl ?_
  refine js_bipush (x := 34) rfl rfl ?_
  refine jw_icmp_ne 76 rfl rfl (fun c1 => ?_) (fun c1 => ?_)
  · have h1 : ¬ sp_at t p e = 34 := fun z => c1 (by rw [z]; rfl)
    rw [if_neg h1] at hq
    refine jw_aload_n rfl rfl ?_
    refine jw_iload_n rfl rfl ?_
    refine js_call (As := [.inl (nI (sp_at t p e))]) rfl l_M_digit c_M_212 i_M_digit s_M_digit jc_o8 rfl (hm.1) rfl (cm_digit hg (by omega) ?_) (by decide) (Nat.le_of_ble_eq_true rfl) (by omega) (by omega) rfl
    refine jw_if_ne 91 rfl rfl (fun c2 => ?_) (fun c2 => ?_)
    · rw [if_pos (sp_b1 c2)] at hq
      have loop : ∀ n k, n ≤ 5 → p ≤ k → k + n = p + 5 → k ≤ e → Q (.inl (some (.inl (nI (sp_digits t e n k))))) h → jw_J g 4 m_M_operandEnd jw_T0 91 [some (.inr (.inr (some mo))), some (.inl (nI p)), some (.inl (nI e)), some (.inl (nI (sp_at t p e))), some (.inl (nI k))] [] h 0 0 Q := by
        intro n
        induction n with
        | zero =>
          intro k _ hpk hkn hk hq
          have hat := sp_at_lt (p := k) ht he
          refine jw_aload_n rfl rfl ?_
          refine jw_aload_n rfl rfl ?_
          refine jw_iload rfl rfl ?_
          refine jw_iload_n rfl rfl ?_
          refine js_call (As := [.inl (nI k), .inl (nI e)]) rfl l_M_at0 c_M_194 i_M_at0 s_M_at0 jc_o8 rfl (hm.1) rfl (cm_at0 hg hm ht (by omega) he ?_) (by decide) (Nat.le_of_ble_eq_true rfl) (by omega) (by omega) rfl
          refine js_call (As := [.inl (nI (sp_at t k e))]) rfl l_M_digit c_M_212 i_M_digit s_M_digit jc_o8 rfl (hm.1) rfl (cm_digit hg (by omega) ?_) (by decide) (Nat.le_of_ble_eq_true rfl) (by omega) (by omega) rfl
          refine jw_if_eq 119 rfl rfl (fun c3 => ?_) (fun c3 => ?_)
          · refine jw_iload rfl rfl ?_
            refine jw_ireturn rfl rfl rfl ?_
            exact hq
          · refine jw_iload rfl rfl ?_
            refine jw_iload_n rfl rfl ?_
            refine jw_isub rfl ?_
            rw [pk_sub hpk, show k - p = 5 by omega]
            refine js_iconst (x := 5) rfl rfl ?_
            refine jw_icmp_ge 119 rfl rfl (fun c4 => ?_) (fun c4 => absurd (by decide) c4)
            refine jw_iload rfl rfl ?_
            refine jw_ireturn rfl rfl rfl ?_
            exact hq
        | succ n ih =>
          intro k _ hpk hkn hk hq
          have hat := sp_at_lt (p := k) ht he
          rw [sp_digits] at hq
          refine jw_aload_n rfl rfl ?_
          refine jw_aload_n rfl rfl ?_
          refine jw_iload rfl rfl ?_
          refine jw_iload_n rfl rfl ?_
          refine js_call (As := [.inl (nI k), .inl (nI e)]) rfl l_M_at0 c_M_194 i_M_at0 s_M_at0 jc_o8 rfl (hm.1) rfl (cm_at0 hg hm ht (by omega) he ?_) (by decide) (Nat.le_of_ble_eq_true rfl) (by omega) (by omega) rfl
          refine js_call (As := [.inl (nI (sp_at t k e))]) rfl l_M_digit c_M_212 i_M_digit s_M_digit jc_o8 rfl (hm.1) rfl (cm_digit hg (by omega) ?_) (by decide) (Nat.le_of_ble_eq_true rfl) (by omega) (by omega) rfl
          refine jw_if_eq 119 rfl rfl (fun c3 => ?_) (fun c3 => ?_)
          · rw [if_neg (by rw [sp_b0 c3]; decide)] at hq
            refine jw_iload rfl rfl ?_
            refine jw_ireturn rfl rfl rfl ?_
            exact hq
          · have h3 := sp_b1 c3
            rw [if_pos h3] at hq
            have hke : k < e := by
              rcases Nat.lt_or_ge k e with q | q
              · exact q
              · have e0 : sp_at t k e = 0 := by simp [sp_at, Nat.not_lt.mpr q]
                rw [e0] at h3; exact absurd h3 (by decide)
            refine jw_iload rfl rfl ?_
            refine jw_iload_n rfl rfl ?_
            refine jw_isub rfl ?_
            rw [pk_sub hpk]
            refine js_iconst (x := 5) rfl rfl ?_
            refine jw_icmp_ge 119 rfl rfl (fun c4 => absurd ((nI_leI (a := 5) (by omega) (by omega)).mp c4) (by omega)) (fun c4 => ?_)
            refine js_iinc rfl rfl (nI_1 k) rfl (by decide) rfl ?_
            refine jw_goto 91 rfl rfl ?_
            exact ih (k + 1) (by omega) (by omega) (by omega) (by omega) hq
      exact loop 5 p (Nat.le_refl _) (Nat.le_refl _) rfl hp hq
    · rw [if_neg (by rw [c2 |> sp_b0]; decide)] at hq
      refine jw_aload_n rfl rfl ?_
      refine jw_iload_n rfl rfl ?_
      refine jw_iload_n rfl rfl ?_
      refine js_call (As := [.inl (nI p), .inl (nI e)]) rfl l_M_pathEnd c_M_215 i_M_pathEnd s_M_pathEnd jc_o8 rfl (hm.1) rfl (cm_pathEnd hg hm ht hp he ?_) (by decide) (Nat.le_of_ble_eq_true rfl) (by omega) (by omega) rfl
      refine jw_ireturn rfl rfl rfl ?_
      exact hq
  · have h1 : sp_at t p e = 34 := (nI_eq (b := 34) (by omega) (by omega)).mp c1
    have hpe := sp_at_lt2 h1 (by decide)
    rw [if_pos h1] at hq
    have fin : ∀ k, k ≤ e → Q (.inl (some (.inl (sp_o (if sp_at t k e = 34 then some (k + 1) else none))))) h → jw_J g 4 m_M_operandEnd jw_T0 55 [some (.inr (.inr (some mo))), some (.inl (nI p)), some (.inl (nI e)), some (.inl (nI (sp_at t p e))), some (.inl (nI k))] [] h 0 0 Q := by
      intro k hk hq
      have hat := sp_at_lt (p := k) ht he
      refine jw_aload_n rfl rfl ?_
      refine jw_iload rfl rfl ?_
      refine jw_iload_n rfl rfl ?_
      refine js_call (As := [.inl (nI k), .inl (nI e)]) rfl l_M_at0 c_M_194 i_M_at0 s_M_at0 jc_o8 rfl (hm.1) rfl (cm_at0 hg hm ht (by omega) he ?_) (by decide) (Nat.le_of_ble_eq_true rfl) (by omega) (by omega) rfl
      refine js_bipush (x := 34) rfl rfl ?_
      refine jw_icmp_ne 74 rfl rfl (fun c3 => ?_) (fun c3 => ?_)
      · rw [if_neg (fun z => c3 (by rw [z]; rfl))] at hq
        refine js_iconst (x := (-1)) rfl rfl ?_
        refine jw_ireturn rfl rfl rfl ?_
        exact hq
      · rw [if_pos ((nI_eq (b := 34) (by omega) (by omega)).mp c3)] at hq
        refine jw_iload rfl rfl ?_
        refine js_iconst (x := 1) rfl rfl ?_
        refine jw_iadd rfl ?_
        rw [show nI k + 1 = nI (k + 1) from nI_1 k]
        refine jw_goto 75 rfl rfl ?_
        refine jw_ireturn rfl rfl rfl ?_
        exact hq
    have loop : ∀ n k, k ≤ e → e ≤ k + n → (∀ k', k' = sp_quote t e n k → k' ≤ e → jw_J g 4 m_M_operandEnd jw_T0 55 [some (.inr (.inr (some mo))), some (.inl (nI p)), some (.inl (nI e)), some (.inl (nI (sp_at t p e))), some (.inl (nI k'))] [] h 0 0 Q) → jw_J g 4 m_M_operandEnd jw_T0 19 [some (.inr (.inr (some mo))), some (.inl (nI p)), some (.inl (nI e)), some (.inl (nI (sp_at t p e))), some (.inl (nI k))] [] h 0 0 Q := by
      intro n
      induction n with
      | zero =>
        intro k hk hn kk
        refine jw_iload rfl rfl ?_
        refine jw_iload_n rfl rfl ?_
        refine jw_icmp_ge 55 rfl rfl (fun c3 => ?_) (fun c3 => absurd ((nI_leI (by omega) (by omega)).mpr (by omega)) c3)
        exact kk k rfl hk
      | succ n ih =>
        intro k hk hn kk
        rw [sp_quote] at kk
        refine jw_iload rfl rfl ?_
        refine jw_iload_n rfl rfl ?_
        refine jw_icmp_ge 55 rfl rfl (fun c3 => ?_) (fun c3 => ?_)
        · have h3 := (nI_leI (by omega) (by omega)).mp c3
          rw [if_neg (by omega)] at kk
          exact kk k rfl hk
        · have h3 : k < e := Nat.lt_of_not_le (fun z => c3 ((nI_leI (by omega) (by omega)).mpr z))
          have htk := ht k (by omega)
          refine jw_aload_n rfl rfl ?_
          refine jw_gr rfl g_M_56 hm.1 (mo_r hm 7 rfl) ?_
          refine jw_iload rfl rfl ?_
          refine js_cald (k) rfl (mo_a hm 7 rfl) (by decide) (by rfl)  rfl (by omega) (by decide) ?_
          rw [htk.1]
          refine js_bipush (x := 34) rfl rfl ?_
          refine jw_icmp_eq 55 rfl rfl (fun c4 => ?_) (fun c4 => ?_)
          · have h4 := (nI_eq (b := 34) (by omega) (by omega)).mp c4
            rw [if_neg (fun z => z.2.1 h4)] at kk
            exact kk k rfl hk
          · have h4 : ¬ t k = 34 := fun z => c4 (by rw [z]; rfl)
            refine jw_aload_n rfl rfl ?_
            refine jw_gr rfl g_M_56 hm.1 (mo_r hm 7 rfl) ?_
            refine jw_iload rfl rfl ?_
            refine js_cald (k) rfl (mo_a hm 7 rfl) (by decide) (by rfl)  rfl (by omega) (by decide) ?_
            rw [htk.1]
            refine js_bipush (x := 125) rfl rfl ?_
            refine jw_icmp_eq 55 rfl rfl (fun c5 => ?_) (fun c5 => ?_)
            · have h5 := (nI_eq (b := 125) (by omega) (by omega)).mp c5
              rw [if_neg (fun z => z.2.2 h5)] at kk
              exact kk k rfl hk
            · have h5 : ¬ t k = 125 := fun z => c5 (by rw [z]; rfl)
              rw [if_pos ⟨h3, h4, h5⟩] at kk
              refine js_iinc rfl rfl (nI_1 k) rfl (by decide) rfl ?_
              refine jw_goto 19 rfl rfl ?_
              exact ih (k + 1) h3 (by omega) kk
    refine js_iinc rfl rfl (nI_1 p) rfl (by decide) rfl ?_
    exact loop (e - (p + 1)) (p + 1) (by omega) (by omega) (fun k' hk' hk2 => fin k' hk2 (by rw [hk']; exact hq))
theorem sp_o_eq {r : Option Nat} {e : Nat} (hr : ∀ k, r = some k → k ≤ 1000) (he : e ≤ 1000) : sp_o r = nI e ↔ r = some e := by
  cases r with
  | none =>
    constructor
    · intro h
      have h1 : (-1 : Int32) = nI e := h
      have h2 := nI_pos (n := e) (by omega)
      rw [← h1] at h2
      exact absurd (by decide) h2
    · intro h; cases h
  | some k =>
    have hk := hr k rfl
    constructor
    · intro h; rw [(nI_eq (a := k) (b := e) (by omega) (by omega)).mp h]
    · intro h; cases h; rfl
theorem sp_helper_le (t : Nat → Nat) {p e : Nat} (hp : p ≤ e) (h0 : ¬ sp_helper t p e = 0) : p + sp_hs (sp_helper t p e) ≤ e ∧ sp_helper t p e ≤ 6 := by
  have key : ∀ w : List Nat, w ≠ [] → (∀ c ∈ w, c ≠ 0) → sp_st t e p w = true → p + w.length ≤ e := by
    intro w hw hc hs
    rcases sp_st_le t e w p hc hs (Or.inl hp) with q | q
    · exact q
    · exact absurd q hw
  revert h0
  rw [sp_helper]
  split
  case isTrue q => intro _; exact ⟨key _ (by decide) (by decide) q, by decide⟩
  split
  case isTrue q => intro _; exact ⟨key _ (by decide) (by decide) q, by decide⟩
  split
  case isTrue q => intro _; exact ⟨key _ (by decide) (by decide) q, by decide⟩
  split
  case isTrue q => intro _; exact ⟨key _ (by decide) (by decide) q, by decide⟩
  split
  case isTrue q => intro _; exact ⟨key _ (by decide) (by decide) q, by decide⟩
  split
  case isTrue q => intro _; exact ⟨key _ (by decide) (by decide) q, by decide⟩
  intro h0; exact absurd rfl h0
set_option maxHeartbeats 4000000 in
set_option maxRecDepth 100000 in
theorem cm_isExpr {g : jg_G} (hg : (jg_l g).stackTraces = false) {h : jh_H} {mo p e : Nat} {ar t : Nat → Nat} {Q : jw_O → jh_H → Prop} (hm : mo_ok h mo ar) (ht : mo_tx h ar t) (hp : p ≤ e) (he : e ≤ 1000) (hq : Q (.inl (some (.inl (sp_b (sp_isExpr t p e))))) h) : jw_C g 5 0 0 m_M_isExpr [.inr (.inr (some mo)), .inl (nI p), .inl (nI e)] h Q := by
  refine jw_intro (ls := [some (.inr (.inr (some mo))), some (.inl (nI p)), some (.inl (nI e)), none, none]) (by decide) k_M_isExpr rfl (by simp [lo_fit, jv_c]) hg ?_
  rw [sp_isExpr] at hq
  have hh : sp_helper t p e < 2 ^ 31 := by
    by_cases z : sp_helper t p e = 0
    · omega
    · have := (sp_helper_le t hp z).2; omega
  refine jw_aload_n rfl rfl ?_
  refine jw_iload_n rfl rfl ?_
  refine jw_iload_n rfl rfl ?_
  refine js_call (As := [.inl (nI p), .inl (nI e)]) rfl l_M_helper c_M_230 i_M_helper s_M_helper jc_o8 rfl (hm.1) rfl (cm_helper hg hm ht hp he ?_) (by decide) (Nat.le_of_ble_eq_true rfl) (by omega) (by omega) rfl
  refine js_istore_n rfl rfl (by decide) rfl ?_
  refine jw_iload_n rfl rfl ?_
  refine jw_if_ne 32 rfl rfl (fun c1 => ?_) (fun c1 => ?_)
  · have h1 : ¬ sp_helper t p e = 0 := fun z => c1 (by rw [z]; rfl)
    have hle := sp_helper_le t hp h1
    rw [if_neg h1] at hq
    refine jw_aload_n rfl rfl ?_
    refine jw_iload_n rfl rfl ?_
    refine jw_aload_n rfl rfl ?_
    refine jw_iload_n rfl rfl ?_
    refine js_call (As := [.inl (nI (sp_helper t p e))]) rfl l_M_nameSize c_M_236 i_M_nameSize s_M_nameSize jc_o8 rfl (hm.1) rfl (cm_nameSize hg (by omega) ?_) (by decide) (Nat.le_of_ble_eq_true rfl) (by omega) (by omega) rfl
    refine jw_iadd rfl ?_
    rw [nI_add]
    refine jw_iload_n rfl rfl ?_
    refine js_call (As := [.inl (nI (p + sp_hs (sp_helper t p e))), .inl (nI e)]) rfl l_M_operandEnd c_M_233 i_M_operandEnd s_M_operandEnd jc_o8 rfl (hm.1) rfl (cm_operandEnd hg hm ht hle.1 he ?_) (by decide) (Nat.le_of_ble_eq_true rfl) (by omega) (by omega) rfl
    refine js_istore rfl rfl (by decide) rfl ?_
    refine jw_iload_n rfl rfl ?_
    refine js_iconst (x := 4) rfl rfl ?_
    have hk0 : ∀ k, sp_operandEnd t (p + sp_hs (sp_helper t p e)) e = some k → k ≤ 1000 := fun k hk => Nat.le_trans (sp_operandEnd_le t hle.1 hk) he
    have at56 : (∀ b : Bool, (b = true ↔ sp_operandEnd t (p + sp_hs (sp_helper t p e)) e = some e) → Q (.inl (some (.inl (sp_b b)))) h) → jw_J g 5 m_M_isExpr jw_T0 56 [some (.inr (.inr (some mo))), some (.inl (nI p)), some (.inl (nI e)), some (.inl (nI (sp_helper t p e))), some (.inl (sp_o (sp_operandEnd t (p + sp_hs (sp_helper t p e)) e)))] [] h 0 0 Q := by
      intro hq
      refine jw_iload rfl rfl ?_
      refine jw_iload_n rfl rfl ?_
      refine jw_icmp_ne 66 rfl rfl (fun c3 => ?_) (fun c3 => ?_)
      · refine js_iconst (x := 0) rfl rfl ?_
        refine jw_ireturn rfl rfl rfl ?_
        exact hq false ⟨(fun z => by cases z), fun z => absurd ((sp_o_eq hk0 he).mpr z) c3⟩
      · refine js_iconst (x := 1) rfl rfl ?_
        refine jw_goto 67 rfl rfl ?_
        refine jw_ireturn rfl rfl rfl ?_
        exact hq true ⟨fun _ => (sp_o_eq hk0 he).mp c3, fun _ => rfl⟩
    refine jw_icmp_lt 56 rfl rfl (fun c2 => ?_) (fun c2 => ?_)
    · have h2 : sp_helper t p e < 4 := (nI_ltI (b := 4) (by omega) (by omega)).mp c2
      refine at56 (fun b hb => ?_)
      revert hq hb
      cases sp_operandEnd t (p + sp_hs (sp_helper t p e)) e with
      | none =>
        intro hq hb
        have : b = false := by cases b; rfl; exact absurd (hb.mp rfl) (by simp)
        rw [this]; exact hq
      | some k =>
        intro hq hb
        have : b = decide (k = e) := by
          by_cases z : k = e
          · subst z; rw [hb.mpr rfl]; simp
          · cases b
            · simp [z]
            · exact absurd (Option.some.inj (hb.mp rfl)) z
        rw [this]
        simp only [if_pos h2] at hq
        exact hq
    · have h2 : ¬ sp_helper t p e < 4 := fun z => c2 ((nI_ltI (b := 4) (by omega) (by omega)).mpr z)
      refine jw_iload rfl rfl ?_
      cases hr : sp_operandEnd t (p + sp_hs (sp_helper t p e)) e with
      | none =>
        refine jw_if_ge 68 rfl rfl (fun c3 => absurd c3 (by decide)) (fun c3 => ?_)
        rw [hr] at at56 hq
        refine at56 (fun b hb => ?_)
        have : b = false := by cases b; rfl; exact absurd (hb.mp rfl) (by simp)
        rw [this]; exact hq
      | some k =>
        have hk := sp_operandEnd_le t hle.1 hr
        refine jw_if_ge 68 rfl rfl (fun c3 => ?_) (fun c3 => absurd (nI_pos' (n := k) (by omega)) c3)
        rw [hr] at hq
        simp only [if_neg h2] at hq
        have hat := sp_at_lt (p := k) ht he
        have at97 : Q (.inl (some (.inl (sp_b false)))) h → jw_J g 5 m_M_isExpr jw_T0 97 [some (.inr (.inr (some mo))), some (.inl (nI p)), some (.inl (nI e)), some (.inl (nI (sp_helper t p e))), some (.inl (sp_o (some k)))] [] h 0 0 Q := by
          intro hq
          refine js_iconst (x := 0) rfl rfl ?_
          refine jw_ireturn rfl rfl rfl ?_
          exact hq
        refine jw_aload_n rfl rfl ?_
        refine jw_iload rfl rfl ?_
        refine jw_iload_n rfl rfl ?_
        refine js_call (As := [.inl (nI k), .inl (nI e)]) rfl l_M_at0 c_M_194 i_M_at0 s_M_at0 jc_o8 rfl (hm.1) rfl (cm_at0 hg hm ht (by omega) he ?_) (by decide) (Nat.le_of_ble_eq_true rfl) (by omega) (by omega) rfl
        refine js_bipush (x := 32) rfl rfl ?_
        refine jw_icmp_ne 97 rfl rfl (fun c4 => ?_) (fun c4 => ?_)
        · have h4 : ¬ sp_at t k e = 32 := fun z => c4 (by rw [z]; rfl)
          have e4 : decide (sp_at t k e = 32 ∧ sp_operandEnd t (k + 1) e = some e) = false := by simp [h4]
          rw [e4] at hq
          exact at97 hq
        · have h4 : sp_at t k e = 32 := (nI_eq (b := 32) (by omega) (by omega)).mp c4
          have hke := sp_at_lt2 h4 (by decide)
          have hk1 : ∀ x, sp_operandEnd t (k + 1) e = some x → x ≤ 1000 := fun x hx => Nat.le_trans (sp_operandEnd_le t hke hx) he
          refine jw_aload_n rfl rfl ?_
          refine jw_iload rfl rfl ?_
          refine js_iconst (x := 1) rfl rfl ?_
          refine jw_iadd rfl ?_
          rw [show sp_o (some k) + 1 = nI (k + 1) from nI_1 k]
          refine jw_iload_n rfl rfl ?_
          refine js_call (As := [.inl (nI (k + 1)), .inl (nI e)]) rfl l_M_operandEnd c_M_233 i_M_operandEnd s_M_operandEnd jc_o8 rfl (hm.1) rfl (cm_operandEnd hg hm ht hke he ?_) (by decide) (Nat.le_of_ble_eq_true rfl) (by omega) (by omega) rfl
          refine jw_iload_n rfl rfl ?_
          refine jw_icmp_ne 97 rfl rfl (fun c5 => ?_) (fun c5 => ?_)
          · have h5 : ¬ sp_operandEnd t (k + 1) e = some e := fun z => c5 ((sp_o_eq hk1 he).mpr z)
            have e4 : decide (sp_at t k e = 32 ∧ sp_operandEnd t (k + 1) e = some e) = false := by simp [h5]
            rw [e4] at hq
            exact at97 hq
          · have h5 := (sp_o_eq hk1 he).mp c5
            have e4 : decide (sp_at t k e = 32 ∧ sp_operandEnd t (k + 1) e = some e) = true := by simp [h4, h5]
            rw [e4] at hq
            refine js_iconst (x := 1) rfl rfl ?_
            refine jw_goto 98 rfl rfl ?_
            refine jw_ireturn rfl rfl rfl ?_
            exact hq
  · have h1 : sp_helper t p e = 0 := (nI_eq (b := 0) (by omega) (by omega)).mp c1
    rw [if_pos h1] at hq
    have hk1 : ∀ x, sp_operandEnd t p e = some x → x ≤ 1000 := fun x hx => Nat.le_trans (sp_operandEnd_le t hp hx) he
    have at30 : Q (.inl (some (.inl (sp_b false)))) h → jw_J g 5 m_M_isExpr jw_T0 30 [some (.inr (.inr (some mo))), some (.inl (nI p)), some (.inl (nI e)), some (.inl (nI (sp_helper t p e))), none] [] h 0 0 Q := by
      intro hq
      refine js_iconst (x := 0) rfl rfl ?_
      refine jw_ireturn rfl rfl rfl ?_
      exact hq
    refine jw_aload_n rfl rfl ?_
    refine jw_iload_n rfl rfl ?_
    refine jw_iload_n rfl rfl ?_
    refine js_call (As := [.inl (nI p), .inl (nI e)]) rfl l_M_operandEnd c_M_233 i_M_operandEnd s_M_operandEnd jc_o8 rfl (hm.1) rfl (cm_operandEnd hg hm ht hp he ?_) (by decide) (Nat.le_of_ble_eq_true rfl) (by omega) (by omega) rfl
    refine jw_iload_n rfl rfl ?_
    refine jw_icmp_ne 30 rfl rfl (fun c2 => ?_) (fun c2 => ?_)
    · have h2 : ¬ sp_operandEnd t p e = some e := fun z => c2 ((sp_o_eq hk1 he).mpr z)
      rw [show decide (sp_operandEnd t p e = some e ∧ p < e) = false by simp [h2]] at hq
      exact at30 hq
    · have h2 := (sp_o_eq hk1 he).mp c2
      refine jw_iload_n rfl rfl ?_
      refine jw_iload_n rfl rfl ?_
      refine jw_icmp_ge 30 rfl rfl (fun c3 => ?_) (fun c3 => ?_)
      · have h3 := (nI_leI (by omega) (by omega)).mp c3
        rw [show decide (sp_operandEnd t p e = some e ∧ p < e) = false by simp; omega] at hq
        exact at30 hq
      · have h3 : p < e := Nat.lt_of_not_le (fun z => c3 ((nI_leI (by omega) (by omega)).mpr z))
        rw [show decide (sp_operandEnd t p e = some e ∧ p < e) = true by simp [h2, h3]] at hq
        refine js_iconst (x := 1) rfl rfl ?_
        refine jw_goto 31 rfl rfl ?_
        refine jw_ireturn rfl rfl rfl ?_
        exact hq
end
section
/-! the sort of a tag by its inside -/
theorem mo_ne {h : jh_H} {mo : Nat} {ar : Nat → Nat} (hm : mo_ok h mo ar) (i j : Nat) {k t n k' t' n' : Nat} (hi : mo_T[i]? = some (k, t, n)) (hj : mo_T[j]? = some (k', t', n')) (hk : k ≠ k') : ar k ≠ ar k' := fun z => hk (hm.2.2 _ (List.mem_of_getElem? hi) _ (List.mem_of_getElem? hj) z)
theorem mo_sI {h : jh_H} {mo : Nat} {ar : Nat → Nat} (hm : mo_ok h mo ar) {a j : Nat} {v : Int32} : mo_ok (jh_sI h a j v) mo ar := hm
theorem mo_si {h : jh_H} {mo : Nat} {ar : Nat → Nat} (hm : mo_ok h mo ar) {a j : Nat} {v : Int32} : mo_ok (jh_si h a j v) mo ar := hm
theorem mo_sG {h : jh_H} {mo : Nat} {ar : Nat → Nat} (hm : mo_ok h mo ar) {a j : Nat} {v : Int64} : mo_ok (jh_sG h a j v) mo ar := hm
theorem mo_tx_s {h h0 : jh_H} {mo : Nat} {ar t : Nat → Nat} (hm : mo_ok h0 mo ar) (ht : mo_tx h ar t) (i : Nat) {k tt n : Nat} (hi : mo_T[i]? = some (k, tt, n)) (hk : k ≠ 526) (j : Nat) (v : Int32) : mo_tx (jh_sI h (ar k) j v) ar t := by
  intro x hx
  have h1 := ht x hx
  refine ⟨?_, h1.2⟩
  rw [← h1.1]
  exact jh_u_a _ _ _ _ (mo_ne hm 7 i rfl hi (fun z => hk z.symm))
theorem sp_st_len (t : Nat → Nat) {e p : Nat} {w : List Nat} (hw : w ≠ []) (hc : ∀ c ∈ w, c ≠ 0) (hp : p ≤ e) (h : sp_st t e p w = true) : p + w.length ≤ e := by
  rcases sp_st_le t e w p hc h (Or.inl hp) with q | q
  · exact q
  · exact absurd q hw
theorem sp_i1 {b : Bool} {x : Int32} (h : x = sp_b b) (h0 : x = 0) : b = false := sp_b0 (h.symm.trans h0)
set_option maxHeartbeats 4000000 in
set_option maxRecDepth 100000 in
theorem cm_sortOf {g : jg_G} (hg : (jg_l g).stackTraces = false) {h : jh_H} {mo p e : Nat} {three : Bool} {ar t : Nat → Nat} {Q : jw_O → jh_H → Prop} (hm : mo_ok h mo ar) (ht : mo_tx h ar t) (hp : p ≤ e) (he : e ≤ 1000) (hq : Q (.inl (some (.inl (sp_o (sp_sort t p e three))))) h) : jw_C g 6 0 0 m_M_sortOf [.inr (.inr (some mo)), .inl (nI p), .inl (nI e), .inl (sp_b three)] h Q := by
  refine jw_intro (ls := [some (.inr (.inr (some mo))), some (.inl (nI p)), some (.inl (nI e)), some (.inl (sp_b three))]) (by decide) k_M_sortOf rfl (by simp [lo_fit, jv_c]) hg ?_
  rw [sp_sort] at hq
  have hat := sp_at_lt (p := p) ht he
  refine jw_iload_n rfl rfl ?_
  refine jw_if_eq 19 rfl rfl (fun c1 => ?_) (fun c1 => ?_)
  rotate_left
  · rw [if_pos (sp_b1 c1)] at hq
    refine jw_aload_n rfl rfl ?_
    refine jw_iload_n rfl rfl ?_
    refine jw_iload_n rfl rfl ?_
    refine js_call (As := [.inl (nI p), .inl (nI e)]) rfl l_M_isExpr c_M_239 i_M_isExpr s_M_isExpr jc_o8 rfl (hm.1) rfl (cm_isExpr hg hm ht hp he ?_) (by decide) (Nat.le_of_ble_eq_true rfl) (by omega) (by omega) rfl
    refine jw_if_eq 17 rfl rfl (fun c2 => ?_) (fun c2 => ?_)
    · rw [if_neg (by rw [sp_b0 c2]; decide)] at hq
      refine js_iconst (x := (-1)) rfl rfl ?_
      refine jw_ireturn rfl rfl rfl ?_
      exact hq
    · rw [if_pos (sp_b1 c2)] at hq
      refine js_iconst (x := 1) rfl rfl ?_
      refine jw_goto 18 rfl rfl ?_
      refine jw_ireturn rfl rfl rfl ?_
      exact hq
  rw [if_neg (by rw [sp_b0 c1]; decide)] at hq
  refine jw_aload_n rfl rfl ?_
  refine jw_iload_n rfl rfl ?_
  refine jw_iload_n rfl rfl ?_
  refine js_call (As := [.inl (nI p), .inl (nI e)]) rfl l_M_at0 c_M_194 i_M_at0 s_M_at0 jc_o8 rfl (hm.1) rfl (cm_at0 hg hm ht (by omega) he ?_) (by decide) (Nat.le_of_ble_eq_true rfl) (by omega) (by omega) rfl
  refine js_bipush (x := 33) rfl rfl ?_
  refine jw_icmp_ne 32 rfl rfl (fun c3 => ?_) (fun c3 => ?_)
  rotate_left
  · rw [if_pos ((nI_eq (b := 33) (by omega) (by omega)).mp c3)] at hq
    refine js_iconst (x := 2) rfl rfl ?_
    refine jw_ireturn rfl rfl rfl ?_
    exact hq
  rw [if_neg (fun z => c3 (by rw [z]; rfl))] at hq
  refine jw_aload_n rfl rfl ?_
  refine jw_iload_n rfl rfl ?_
  refine jw_iload_n rfl rfl ?_
  refine jw_ldc2 rfl q_M_242 ?_
  refine js_call (As := [.inl (nI p), .inl (nI e), .inr (.inl _)]) rfl l_M_stands c_M_199 i_M_stands s_M_stands jc_o8 rfl (hm.1) rfl (cm_st hg sw_242 hm ht (by omega) he ?_) (by decide) (Nat.le_of_ble_eq_true rfl) (by omega) (by omega) rfl
  refine jw_if_eq 61 rfl rfl (fun c32 => ?_) (fun c32 => ?_)
  rotate_left
  · rw [if_pos (sp_b1 c32)] at hq
    have hle := sp_st_len t (by decide) (by decide) hp (sp_b1 c32)
    simp only [List.length_cons, List.length_nil] at hle
    refine jw_aload_n rfl rfl ?_
    refine jw_iload_n rfl rfl ?_
    refine js_iconst (x := 4) rfl rfl ?_
    refine jw_iadd rfl ?_
    rw [show nI p + 4 = nI (p + 4) from nI_add p 4]
    refine jw_iload_n rfl rfl ?_
    refine js_call (As := [.inl (nI (p + 4)), .inl (nI e)]) rfl l_M_isExpr c_M_239 i_M_isExpr s_M_isExpr jc_o8 rfl (hm.1) rfl (cm_isExpr hg hm ht (by omega) he ?_) (by decide) (Nat.le_of_ble_eq_true rfl) (by omega) (by omega) rfl
    refine jw_if_eq 59 rfl rfl (fun d32 => ?_) (fun d32 => ?_)
    · rw [if_neg (by rw [sp_b0 d32]; decide)] at hq
      refine js_iconst (x := (-1)) rfl rfl ?_
      refine jw_ireturn rfl rfl rfl ?_
      exact hq
    · rw [if_pos (sp_b1 d32)] at hq
      refine js_iconst (x := 3) rfl rfl ?_
      refine jw_goto 60 rfl rfl ?_
      refine jw_ireturn rfl rfl rfl ?_
      exact hq
  rw [if_neg (by rw [sp_b0 c32]; decide)] at hq
  refine jw_aload_n rfl rfl ?_
  refine jw_iload_n rfl rfl ?_
  refine jw_iload_n rfl rfl ?_
  refine jw_ldc2 rfl q_M_244 ?_
  refine js_call (As := [.inl (nI p), .inl (nI e), .inr (.inl _)]) rfl l_M_stands c_M_199 i_M_stands s_M_stands jc_o8 rfl (hm.1) rfl (cm_st hg sw_244 hm ht (by omega) he ?_) (by decide) (Nat.le_of_ble_eq_true rfl) (by omega) (by omega) rfl
  refine jw_if_eq 91 rfl rfl (fun c61 => ?_) (fun c61 => ?_)
  rotate_left
  · rw [if_pos (sp_b1 c61)] at hq
    have hle := sp_st_len t (by decide) (by decide) hp (sp_b1 c61)
    simp only [List.length_cons, List.length_nil] at hle
    refine jw_aload_n rfl rfl ?_
    refine jw_iload_n rfl rfl ?_
    refine js_bipush (x := 6) rfl rfl ?_
    refine jw_iadd rfl ?_
    rw [show nI p + 6 = nI (p + 6) from nI_add p 6]
    refine jw_iload_n rfl rfl ?_
    refine js_call (As := [.inl (nI (p + 6)), .inl (nI e)]) rfl l_M_isExpr c_M_239 i_M_isExpr s_M_isExpr jc_o8 rfl (hm.1) rfl (cm_isExpr hg hm ht (by omega) he ?_) (by decide) (Nat.le_of_ble_eq_true rfl) (by omega) (by omega) rfl
    refine jw_if_eq 89 rfl rfl (fun d61 => ?_) (fun d61 => ?_)
    · rw [if_neg (by rw [sp_b0 d61]; decide)] at hq
      refine js_iconst (x := (-1)) rfl rfl ?_
      refine jw_ireturn rfl rfl rfl ?_
      exact hq
    · rw [if_pos (sp_b1 d61)] at hq
      refine js_iconst (x := 4) rfl rfl ?_
      refine jw_goto 90 rfl rfl ?_
      refine jw_ireturn rfl rfl rfl ?_
      exact hq
  rw [if_neg (by rw [sp_b0 c61]; decide)] at hq
  refine jw_aload_n rfl rfl ?_
  refine jw_iload_n rfl rfl ?_
  refine jw_iload_n rfl rfl ?_
  refine jw_ldc2 rfl q_M_246 ?_
  refine js_call (As := [.inl (nI p), .inl (nI e), .inr (.inl _)]) rfl l_M_stands c_M_199 i_M_stands s_M_stands jc_o8 rfl (hm.1) rfl (cm_st hg sw_246 hm ht (by omega) he ?_) (by decide) (Nat.le_of_ble_eq_true rfl) (by omega) (by omega) rfl
  refine jw_if_eq 121 rfl rfl (fun c91 => ?_) (fun c91 => ?_)
  rotate_left
  · rw [if_pos (sp_b1 c91)] at hq
    have hle := sp_st_len t (by decide) (by decide) hp (sp_b1 c91)
    simp only [List.length_cons, List.length_nil] at hle
    refine jw_aload_n rfl rfl ?_
    refine jw_iload_n rfl rfl ?_
    refine js_bipush (x := 6) rfl rfl ?_
    refine jw_iadd rfl ?_
    rw [show nI p + 6 = nI (p + 6) from nI_add p 6]
    refine jw_iload_n rfl rfl ?_
    refine js_call (As := [.inl (nI (p + 6)), .inl (nI e)]) rfl l_M_isExpr c_M_239 i_M_isExpr s_M_isExpr jc_o8 rfl (hm.1) rfl (cm_isExpr hg hm ht (by omega) he ?_) (by decide) (Nat.le_of_ble_eq_true rfl) (by omega) (by omega) rfl
    refine jw_if_eq 119 rfl rfl (fun d91 => ?_) (fun d91 => ?_)
    · rw [if_neg (by rw [sp_b0 d91]; decide)] at hq
      refine js_iconst (x := (-1)) rfl rfl ?_
      refine jw_ireturn rfl rfl rfl ?_
      exact hq
    · rw [if_pos (sp_b1 d91)] at hq
      refine js_iconst (x := 5) rfl rfl ?_
      refine jw_goto 120 rfl rfl ?_
      refine jw_ireturn rfl rfl rfl ?_
      exact hq
  rw [if_neg (by rw [sp_b0 c91]; decide)] at hq
  have j121 : (¬ (e - p = 4 ∧ sp_st t e p [101, 108, 115, 101])) → jw_J g 6 m_M_sortOf jw_T0 143 [some (.inr (.inr (some mo))), some (.inl (nI p)), some (.inl (nI e)), some (.inl (sp_b three))] [] h 0 0 Q := by
    intro hn
    rw [if_neg hn] at hq
    have j143 : (¬ (e - p = 3 ∧ sp_st t e p [47, 105, 102])) → jw_J g 6 m_M_sortOf jw_T0 165 [some (.inr (.inr (some mo))), some (.inl (nI p)), some (.inl (nI e)), some (.inl (sp_b three))] [] h 0 0 Q := by
      intro hn
      rw [if_neg hn] at hq
      have j165 : (¬ (e - p = 5 ∧ sp_st t e p [47, 101, 97, 99, 104])) → jw_J g 6 m_M_sortOf jw_T0 187 [some (.inr (.inr (some mo))), some (.inl (nI p)), some (.inl (nI e)), some (.inl (sp_b three))] [] h 0 0 Q := by
        intro hn
        rw [if_neg hn] at hq
        have j187 : (¬ (e - p = 5 ∧ sp_st t e p [47, 119, 105, 116, 104])) → jw_J g 6 m_M_sortOf jw_T0 209 [some (.inr (.inr (some mo))), some (.inl (nI p)), some (.inl (nI e)), some (.inl (sp_b three))] [] h 0 0 Q := by
          intro hn
          rw [if_neg hn] at hq
          refine jw_aload_n rfl rfl ?_
          refine jw_iload_n rfl rfl ?_
          refine jw_iload_n rfl rfl ?_
          refine js_call (As := [.inl (nI p), .inl (nI e)]) rfl l_M_at0 c_M_194 i_M_at0 s_M_at0 jc_o8 rfl (hm.1) rfl (cm_at0 hg hm ht (by omega) he ?_) (by decide) (Nat.le_of_ble_eq_true rfl) (by omega) (by omega) rfl
          refine js_bipush (x := 62) rfl rfl ?_
          refine jw_icmp_ne 273 rfl rfl (fun c9 => ?_) (fun c9 => ?_)
          · rw [if_neg (fun z => c9 (by rw [z]; rfl))] at hq
            refine jw_aload_n rfl rfl ?_
            refine jw_iload_n rfl rfl ?_
            refine jw_iload_n rfl rfl ?_
            refine js_call (As := [.inl (nI p), .inl (nI e)]) rfl l_M_isExpr c_M_239 i_M_isExpr s_M_isExpr jc_o8 rfl (hm.1) rfl (cm_isExpr hg hm ht hp he ?_) (by decide) (Nat.le_of_ble_eq_true rfl) (by omega) (by omega) rfl
            refine jw_if_eq 286 rfl rfl (fun c2 => ?_) (fun c2 => ?_)
            · rw [if_neg (by rw [sp_b0 c2]; decide)] at hq
              refine js_iconst (x := (-1)) rfl rfl ?_
              refine jw_ireturn rfl rfl rfl ?_
              exact hq
            · rw [if_pos (sp_b1 c2)] at hq
              refine js_iconst (x := 0) rfl rfl ?_
              refine jw_goto 287 rfl rfl ?_
              refine jw_ireturn rfl rfl rfl ?_
              exact hq
          · rw [if_pos ((nI_eq (b := 62) (by omega) (by omega)).mp c9)] at hq
            have at271 : Q (.inl (some (.inl (-1)))) h → jw_J g 6 m_M_sortOf jw_T0 271 [some (.inr (.inr (some mo))), some (.inl (nI p)), some (.inl (nI e)), some (.inl (sp_b three))] [] h 0 0 Q := by
              intro hq
              refine js_iconst (x := (-1)) rfl rfl ?_
              refine jw_ireturn rfl rfl rfl ?_
              exact hq
            refine jw_iload_n rfl rfl ?_
            refine jw_iload_n rfl rfl ?_
            refine jw_isub rfl ?_
            rw [pk_sub hp]
            refine js_iconst (x := 3) rfl rfl ?_
            refine jw_icmp_ne 271 rfl rfl (fun d1 => ?_) (fun d1 => ?_)
            · rw [if_neg (fun z => d1 (by rw [z.1]; rfl))] at hq
              exact at271 hq
            have l1 : e - p = 3 := (nI_eq (b := 3) (by omega) (by omega)).mp d1
            have t1 := ht (p + 1) (by omega)
            have t2 := ht (p + 2) (by omega)
            refine jw_aload_n rfl rfl ?_
            refine jw_gr rfl g_M_56 hm.1 (mo_r hm 7 rfl) ?_
            refine jw_iload_n rfl rfl ?_
            refine js_iconst (x := 1) rfl rfl ?_
            refine jw_iadd rfl ?_
            rw [show nI p + 1 = nI (p + 1) from nI_1 p]
            refine js_cald (p + 1) rfl (mo_a hm 7 rfl) (by decide) (by rfl)  rfl (by omega) (by decide) ?_
            rw [t1.1]
            refine js_bipush (x := 32) rfl rfl ?_
            refine jw_icmp_ne 271 rfl rfl (fun d2 => ?_) (fun d2 => ?_)
            · rw [if_neg (fun z => d2 (by rw [z.2.1]; rfl))] at hq
              exact at271 hq
            have l2 : t (p + 1) = 32 := (nI_eq (b := 32) (by omega) (by omega)).mp d2
            refine jw_aload_n rfl rfl ?_
            refine jw_gr rfl g_M_56 hm.1 (mo_r hm 7 rfl) ?_
            refine jw_iload_n rfl rfl ?_
            refine js_iconst (x := 2) rfl rfl ?_
            refine jw_iadd rfl ?_
            rw [show nI p + 2 = nI (p + 2) from nI_add p 2]
            refine js_cald (p + 2) rfl (mo_a hm 7 rfl) (by decide) (by rfl)  rfl (by omega) (by decide) ?_
            rw [t2.1]
            refine js_bipush (x := 97) rfl rfl ?_
            refine jw_icmp_lt 271 rfl rfl (fun d3 => ?_) (fun d3 => ?_)
            · rw [if_neg (fun z => absurd ((nI_ltI (b := 97) (by omega) (by omega)).mp d3) (by omega))] at hq
              exact at271 hq
            have l3 : ¬ t (p + 2) < 97 := fun z => d3 ((nI_ltI (b := 97) (by omega) (by omega)).mpr z)
            refine jw_aload_n rfl rfl ?_
            refine jw_gr rfl g_M_56 hm.1 (mo_r hm 7 rfl) ?_
            refine jw_iload_n rfl rfl ?_
            refine js_iconst (x := 2) rfl rfl ?_
            refine jw_iadd rfl ?_
            rw [show nI p + 2 = nI (p + 2) from nI_add p 2]
            refine js_cald (p + 2) rfl (mo_a hm 7 rfl) (by decide) (by rfl)  rfl (by omega) (by decide) ?_
            rw [t2.1]
            refine js_bipush (x := 100) rfl rfl ?_
            refine jw_icmp_gt 271 rfl rfl (fun d4 => ?_) (fun d4 => ?_)
            · rw [if_neg (fun z => absurd ((nI_ltI (a := 100) (by omega) (by omega)).mp d4) (by omega))] at hq
              exact at271 hq
            have l4 : ¬ 100 < t (p + 2) := fun z => d4 ((nI_ltI (a := 100) (by omega) (by omega)).mpr z)
            rw [if_pos ⟨l1, l2, by omega, by omega⟩] at hq
            refine js_bipush (x := 10) rfl rfl ?_
            refine jw_goto 272 rfl rfl ?_
            refine jw_ireturn rfl rfl rfl ?_
            exact hq
        refine jw_iload_n rfl rfl ?_
        refine jw_iload_n rfl rfl ?_
        refine jw_isub rfl ?_
        rw [pk_sub hp]
        refine js_iconst (x := 5) rfl rfl ?_
        refine jw_icmp_ne 209 rfl rfl (fun c187 => j187 (fun z => c187 (by rw [z.1]; rfl))) (fun c187 => ?_)
        have l187 : e - p = 5 := (nI_eq (b := 5) (by omega) (by omega)).mp c187
        refine jw_aload_n rfl rfl ?_
        refine jw_iload_n rfl rfl ?_
        refine jw_iload_n rfl rfl ?_
        refine jw_ldc2 rfl q_M_254 ?_
        refine js_call (As := [.inl (nI p), .inl (nI e), .inr (.inl _)]) rfl l_M_stands c_M_199 i_M_stands s_M_stands jc_o8 rfl (hm.1) rfl (cm_st hg sw_254 hm ht (by omega) he ?_) (by decide) (Nat.le_of_ble_eq_true rfl) (by omega) (by omega) rfl
        refine jw_if_eq 209 rfl rfl (fun d187 => j187 (fun z => by rw [sp_b0 d187] at z; exact absurd z.2 (by decide))) (fun d187 => ?_)
        rw [if_pos ⟨l187, sp_b1 d187⟩] at hq
        refine js_bipush (x := 9) rfl rfl ?_
        refine jw_ireturn rfl rfl rfl ?_
        exact hq
      refine jw_iload_n rfl rfl ?_
      refine jw_iload_n rfl rfl ?_
      refine jw_isub rfl ?_
      rw [pk_sub hp]
      refine js_iconst (x := 5) rfl rfl ?_
      refine jw_icmp_ne 187 rfl rfl (fun c165 => j165 (fun z => c165 (by rw [z.1]; rfl))) (fun c165 => ?_)
      have l165 : e - p = 5 := (nI_eq (b := 5) (by omega) (by omega)).mp c165
      refine jw_aload_n rfl rfl ?_
      refine jw_iload_n rfl rfl ?_
      refine jw_iload_n rfl rfl ?_
      refine jw_ldc2 rfl q_M_252 ?_
      refine js_call (As := [.inl (nI p), .inl (nI e), .inr (.inl _)]) rfl l_M_stands c_M_199 i_M_stands s_M_stands jc_o8 rfl (hm.1) rfl (cm_st hg sw_252 hm ht (by omega) he ?_) (by decide) (Nat.le_of_ble_eq_true rfl) (by omega) (by omega) rfl
      refine jw_if_eq 187 rfl rfl (fun d165 => j165 (fun z => by rw [sp_b0 d165] at z; exact absurd z.2 (by decide))) (fun d165 => ?_)
      rw [if_pos ⟨l165, sp_b1 d165⟩] at hq
      refine js_bipush (x := 8) rfl rfl ?_
      refine jw_ireturn rfl rfl rfl ?_
      exact hq
    refine jw_iload_n rfl rfl ?_
    refine jw_iload_n rfl rfl ?_
    refine jw_isub rfl ?_
    rw [pk_sub hp]
    refine js_iconst (x := 3) rfl rfl ?_
    refine jw_icmp_ne 165 rfl rfl (fun c143 => j143 (fun z => c143 (by rw [z.1]; rfl))) (fun c143 => ?_)
    have l143 : e - p = 3 := (nI_eq (b := 3) (by omega) (by omega)).mp c143
    refine jw_aload_n rfl rfl ?_
    refine jw_iload_n rfl rfl ?_
    refine jw_iload_n rfl rfl ?_
    refine jw_ldc2 rfl q_M_250 ?_
    refine js_call (As := [.inl (nI p), .inl (nI e), .inr (.inl _)]) rfl l_M_stands c_M_199 i_M_stands s_M_stands jc_o8 rfl (hm.1) rfl (cm_st hg sw_250 hm ht (by omega) he ?_) (by decide) (Nat.le_of_ble_eq_true rfl) (by omega) (by omega) rfl
    refine jw_if_eq 165 rfl rfl (fun d143 => j143 (fun z => by rw [sp_b0 d143] at z; exact absurd z.2 (by decide))) (fun d143 => ?_)
    rw [if_pos ⟨l143, sp_b1 d143⟩] at hq
    refine js_bipush (x := 7) rfl rfl ?_
    refine jw_ireturn rfl rfl rfl ?_
    exact hq
  refine jw_iload_n rfl rfl ?_
  refine jw_iload_n rfl rfl ?_
  refine jw_isub rfl ?_
  rw [pk_sub hp]
  refine js_iconst (x := 4) rfl rfl ?_
  refine jw_icmp_ne 143 rfl rfl (fun c121 => j121 (fun z => c121 (by rw [z.1]; rfl))) (fun c121 => ?_)
  have l121 : e - p = 4 := (nI_eq (b := 4) (by omega) (by omega)).mp c121
  refine jw_aload_n rfl rfl ?_
  refine jw_iload_n rfl rfl ?_
  refine jw_iload_n rfl rfl ?_
  refine jw_ldc2 rfl q_M_248 ?_
  refine js_call (As := [.inl (nI p), .inl (nI e), .inr (.inl _)]) rfl l_M_stands c_M_199 i_M_stands s_M_stands jc_o8 rfl (hm.1) rfl (cm_st hg sw_248 hm ht (by omega) he ?_) (by decide) (Nat.le_of_ble_eq_true rfl) (by omega) (by omega) rfl
  refine jw_if_eq 143 rfl rfl (fun d121 => j121 (fun z => by rw [sp_b0 d121] at z; exact absurd z.2 (by decide))) (fun d121 => ?_)
  rw [if_pos ⟨l121, sp_b1 d121⟩] at hq
  refine js_bipush (x := 6) rfl rfl ?_
  refine jw_ireturn rfl rfl rfl ?_
  exact hq
end
section
/-! the model takes one tag, and fits it in -/
def sp_fd (t : Nat → Nat) (e : Nat) (w : List Nat) : Nat → Nat → Nat
  | 0, k => k
  | n + 1, k => if k < e ∧ sp_st t e k w = false then sp_fd t e w n (k + 1) else k
theorem sp_fd_le (t : Nat → Nat) (e : Nat) (w : List Nat) : ∀ n k, k ≤ e → sp_fd t e w n k ≤ e ∧ k ≤ sp_fd t e w n k := by
  intro n
  induction n with
  | zero => intro k h; exact ⟨h, Nat.le_refl _⟩
  | succ n ih =>
    intro k h
    rw [sp_fd]
    split
    case isTrue q => have := ih (k + 1) q.1; omega
    case isFalse q => exact ⟨h, Nat.le_refl _⟩
theorem sp_fd_at (t : Nat → Nat) (e : Nat) (w : List Nat) : ∀ n k, k ≤ e → e ≤ k + n → sp_fd t e w n k < e → sp_st t e (sp_fd t e w n k) w = true := by
  intro n
  induction n with
  | zero => intro k h1 h2 h3; rw [sp_fd] at h3; omega
  | succ n ih =>
    intro k h1 h2 h3
    rw [sp_fd] at h3 ⊢
    split
    case isTrue q => rw [if_pos q] at h3; exact ih (k + 1) q.1 (by omega) h3
    case isFalse q =>
      rw [if_neg q] at h3
      cases hs : sp_st t e k w with
      | true => rfl
      | false => exact absurd ⟨h3, hs⟩ q
def sp_n (three : Bool) : Nat := if three then 3 else 2
def sp_cl (three : Bool) : List Nat := if three then [125, 125, 125] else [125, 125]
/-- where the next tag begins; is it one of three; where its inside ends -/
def sp_k (t : Nat → Nat) (p e : Nat) : Nat := sp_fd t e [123, 123] (e - p) p
def sp_th (t : Nat → Nat) (p e : Nat) : Bool := sp_st t e (sp_k t p e) [123, 123, 123]
def sp_f (t : Nat → Nat) (p e : Nat) : Nat := sp_k t p e + sp_n (sp_th t p e)
def sp_q (t : Nat → Nat) (p e : Nat) : Nat := sp_fd t e (sp_cl (sp_th t p e)) (e - sp_f t p e) (sp_f t p e)
theorem sp_f_le (t : Nat → Nat) {p e : Nat} (hp : p ≤ e) (hk : sp_k t p e < e) : sp_f t p e ≤ e := by
  have h1 := sp_fd_at t e [123, 123] (e - p) p hp (by omega) hk
  have h0 := sp_fd_le t e [123, 123] (e - p) p hp
  rw [sp_f]
  cases hth : sp_th t p e with
  | true =>
    have := sp_st_len t (by decide) (by decide) (show sp_k t p e ≤ e by omega) hth
    simpa [sp_n] using this
  | false =>
    have := sp_st_len t (by decide) (by decide) h0.1 h1
    exact this
theorem sp_ite {P : Option Nat → Prop} {c : Prop} {d : Decidable c} {a b : Option Nat} (h1 : P a) (h2 : P b) : P (@ite _ c d a b) := by
  cases d with
  | isTrue h => exact h1
  | isFalse h => exact h2
theorem sp_sort_in (t : Nat → Nat) (p e : Nat) (three : Bool) : sp_sort t p e three ∈ [none, some 0, some 1, some 2, some 3, some 4, some 5, some 6, some 7, some 8, some 9, some 10] := by
  unfold sp_sort
  repeat' (refine sp_ite (P := fun x => x ∈ [none, some 0, some 1, some 2, some 3, some 4, some 5, some 6, some 7, some 8, some 9, some 10]) ?_ ?_)
  all_goals decide
theorem sp_sort_le {t : Nat → Nat} {p e s : Nat} {three : Bool} (h : sp_sort t p e three = some s) : s ≤ 10 := by
  have h1 := sp_sort_in t p e three
  rw [h] at h1
  have h2 : ∀ x ∈ ([none, some 0, some 1, some 2, some 3, some 4, some 5, some 6, some 7, some 8, some 9, some 10] : List (Option Nat)), ∀ y, x = some y → y ≤ 10 := by
    intro x hx y hy
    subst hy
    simp at hx
    omega
  exact h2 _ h1 s rfl
def tg_set (h : jh_H) (ar : Nat → Nat) (j k f q n : Nat) (s : Option Nat) : jh_H :=
  jh_sI (jh_sI (jh_sI (jh_sI (jh_sI (jh_sI (jh_sI h (ar 530) j (nI k)) (ar 532) j (nI f)) (ar 533) j (nI q)) (ar 531) j (nI (q + n))) (ar 534) j (sp_o s)) (ar 535) j (-1)) (ar 536) j (-1)
set_option maxHeartbeats 4000000 in
set_option maxRecDepth 100000 in
theorem cm_takeTag {g : jg_G} (hg : (jg_l g).stackTraces = false) {h : jh_H} {mo p e j : Nat} {ar t : Nat → Nat} {Q : jw_O → jh_H → Prop} (hm : mo_ok h mo ar) (ht : mo_tx h ar t) (hp : p ≤ e) (he : e ≤ 1000) (hj0 : sp_k t p e < e → j < 250)
    (q0 : e ≤ sp_k t p e → Q (.inl (some (.inl 0))) h) (q1 : sp_k t p e < e → e ≤ sp_q t p e → Q (.inl (some (.inl (-1)))) (jh_sI h (ar 530) j (nI (sp_k t p e))))
    (q2 : sp_k t p e < e → sp_q t p e < e → Q (.inl (some (.inl (if (sp_sort t (sp_f t p e) (sp_q t p e) (sp_th t p e)).isSome then 1 else -1)))) (tg_set h ar j (sp_k t p e) (sp_f t p e) (sp_q t p e) (sp_n (sp_th t p e)) (sp_sort t (sp_f t p e) (sp_q t p e) (sp_th t p e)))) :
    jw_C g 7 0 0 m_M_takeTag [.inr (.inr (some mo)), .inl (nI p), .inl (nI e), .inl (nI j)] h Q := by
  refine jw_intro (ls := [some (.inr (.inr (some mo))), some (.inl (nI p)), some (.inl (nI e)), some (.inl (nI j)), none, none, none, none]) (by decide) k_M_takeTag rfl (by simp [lo_fit, jv_c]) hg ?_
  have lp1 : ∀ n k, k ≤ e → e ≤ k + n → (∀ k', k' = sp_fd t e [123, 123] n k → k' ≤ e → jw_J g 7 m_M_takeTag jw_T0 28 [some (.inr (.inr (some mo))), some (.inl (nI p)), some (.inl (nI e)), some (.inl (nI j)), some (.inl (nI k')), none, none, none] [] h 0 0 Q) → jw_J g 7 m_M_takeTag jw_T0 3 [some (.inr (.inr (some mo))), some (.inl (nI p)), some (.inl (nI e)), some (.inl (nI j)), some (.inl (nI k)), none, none, none] [] h 0 0 Q := by
    intro n
    induction n with
    | zero =>
      intro k hk hn kk
      refine jw_iload rfl rfl ?_
      refine jw_iload_n rfl rfl ?_
      refine jw_icmp_ge 28 rfl rfl (fun _ => kk k rfl hk) (fun c => absurd ((nI_leI (by omega) (by omega)).mpr (by omega)) c)
    | succ n ih =>
      intro k hk hn kk
      rw [sp_fd] at kk
      refine jw_iload rfl rfl ?_
      refine jw_iload_n rfl rfl ?_
      refine jw_icmp_ge 28 rfl rfl (fun c1 => ?_) (fun c1 => ?_)
      · have h1 := (nI_leI (by omega) (by omega)).mp c1
        rw [if_neg (by omega)] at kk
        exact kk k rfl hk
      · have h1 : k < e := Nat.lt_of_not_le (fun z => c1 ((nI_leI (by omega) (by omega)).mpr z))
        refine jw_aload_n rfl rfl ?_
        refine jw_iload rfl rfl ?_
        refine jw_iload_n rfl rfl ?_
        refine jw_ldc2 rfl q_M_256 ?_
        refine js_call (As := [.inl (nI k), .inl (nI e), .inr (.inl _)]) rfl l_M_stands c_M_199 i_M_stands s_M_stands jc_o8 rfl (hm.1) rfl (cm_st hg sw_256 hm ht (by omega) he ?_) (by decide) (Nat.le_of_ble_eq_true rfl) (by omega) (by omega) rfl
        refine jw_if_ne 28 rfl rfl (fun c2 => ?_) (fun c2 => ?_)
        · rw [if_neg (fun z => by rw [sp_b1 c2] at z; exact absurd z.2 (by decide))] at kk
          exact kk k rfl hk
        · rw [if_pos ⟨h1, sp_b0 c2⟩] at kk
          refine js_iinc rfl rfl (nI_1 k) rfl (by decide) rfl ?_
          refine jw_goto 3 rfl rfl ?_
          exact ih (k + 1) h1 (by omega) kk
  refine jw_iload_n rfl rfl ?_
  refine js_istore rfl rfl (by decide) rfl ?_
  refine lp1 (e - p) p hp (by omega) (fun k hk hke => ?_)
  have ek : k = sp_k t p e := hk
  refine jw_iload rfl rfl ?_
  refine jw_iload_n rfl rfl ?_
  refine jw_icmp_lt 36 rfl rfl (fun c1 => ?_) (fun c1 => ?_)
  rotate_left
  · have h1 : ¬ k < e := fun z => c1 ((nI_ltI (by omega) (by omega)).mpr z)
    refine js_iconst (x := 0) rfl rfl ?_
    refine jw_ireturn rfl rfl rfl ?_
    exact q0 (by omega)
  have h1 : k < e := (nI_ltI (by omega) (by omega)).mp c1
  have hj : j < 250 := hj0 (by rw [← ek]; exact h1)
  have hf := sp_f_le t hp (by rw [← ek]; exact h1)
  have hth : sp_th t p e = sp_st t e k [123, 123, 123] := by rw [sp_th, ← ek]
  have ef : sp_f t p e = k + sp_n (sp_th t p e) := by rw [sp_f, ← ek]
  have hm1 : mo_ok (jh_sI h (ar 530) j (nI k)) mo ar := hm
  have ht1 : mo_tx (jh_sI h (ar 530) j (nI k)) ar t := mo_tx_s hm ht 11 rfl (by decide) j _
  refine jw_aload_n rfl rfl ?_
  refine jw_gr rfl g_M_68 hm.1 (mo_r hm 11 rfl) ?_
  refine jw_iload_n rfl rfl ?_
  refine jw_iload rfl rfl ?_
  refine js_iast (j) rfl (mo_a hm 11 rfl) (by decide) (by rfl)  rfl (by omega) (by decide) ?_
  refine jw_aload_n rfl rfl ?_
  refine jw_iload rfl rfl ?_
  refine jw_iload_n rfl rfl ?_
  refine jw_ldc2 rfl q_M_258 ?_
  refine js_call (As := [.inl (nI k), .inl (nI e), .inr (.inl _)]) rfl l_M_stands c_M_199 i_M_stands s_M_stands jc_o8 rfl (hm1.1) rfl (cm_st hg sw_258 hm1 ht1 (by omega) he ?_) (by decide) (Nat.le_of_ble_eq_true rfl) (by omega) (by omega) rfl
  refine js_istore rfl rfl (by decide) rfl ?_
  refine jw_iload rfl rfl ?_
  rw [← hth]
  have go : ∀ (th : Bool), th = sp_th t p e → jw_J g 7 m_M_takeTag jw_T0 66 [some (.inr (.inr (some mo))), some (.inl (nI p)), some (.inl (nI e)), some (.inl (nI j)), some (.inl (nI k)), some (.inl (sp_b th)), none, none] [.inl (nI (sp_n th))] (jh_sI h (ar 530) j (nI k)) 0 0 Q := by
    intro th hth2
    have ef2 : k + sp_n th = sp_f t p e := by rw [ef, hth2]
    refine js_istore rfl rfl (by decide) rfl ?_
    refine jw_iload rfl rfl ?_
    refine jw_iload rfl rfl ?_
    refine jw_iadd rfl ?_
    rw [nI_add, ef2]
    refine js_istore rfl rfl (by decide) rfl ?_
    have lp2 : ∀ n k2, k2 ≤ e → e ≤ k2 + n → (∀ k', k' = sp_fd t e (sp_cl th) n k2 → k' ≤ e → jw_J g 7 m_M_takeTag jw_T0 111 [some (.inr (.inr (some mo))), some (.inl (nI p)), some (.inl (nI e)), some (.inl (nI j)), some (.inl (nI k)), some (.inl (sp_b th)), some (.inl (nI (sp_n th))), some (.inl (nI k'))] [] (jh_sI h (ar 530) j (nI k)) 0 0 Q) → jw_J g 7 m_M_takeTag jw_T0 75 [some (.inr (.inr (some mo))), some (.inl (nI p)), some (.inl (nI e)), some (.inl (nI j)), some (.inl (nI k)), some (.inl (sp_b th)), some (.inl (nI (sp_n th))), some (.inl (nI k2))] [] (jh_sI h (ar 530) j (nI k)) 0 0 Q := by
      intro n
      induction n with
      | zero =>
        intro k2 hk2 hn kk
        refine jw_iload rfl rfl ?_
        refine jw_iload_n rfl rfl ?_
        refine jw_icmp_ge 111 rfl rfl (fun _ => kk k2 rfl hk2) (fun c => absurd ((nI_leI (by omega) (by omega)).mpr (by omega)) c)
      | succ n ih =>
        intro k2 hk2 hn kk
        rw [sp_fd] at kk
        refine jw_iload rfl rfl ?_
        refine jw_iload_n rfl rfl ?_
        refine jw_icmp_ge 111 rfl rfl (fun c1 => ?_) (fun c1 => ?_)
        · have h1 := (nI_leI (by omega) (by omega)).mp c1
          rw [if_neg (by omega)] at kk
          exact kk k2 rfl hk2
        · have h1 : k2 < e := Nat.lt_of_not_le (fun z => c1 ((nI_leI (by omega) (by omega)).mpr z))
          have behind : ∀ b : Bool, b = sp_st t e k2 (sp_cl th) → jw_J g 7 m_M_takeTag jw_T0 102 [some (.inr (.inr (some mo))), some (.inl (nI p)), some (.inl (nI e)), some (.inl (nI j)), some (.inl (nI k)), some (.inl (sp_b th)), some (.inl (nI (sp_n th))), some (.inl (nI k2))] [.inl (sp_b b)] (jh_sI h (ar 530) j (nI k)) 0 0 Q := by
            intro b hb
            rw [← hb] at kk
            refine jw_if_ne 111 rfl rfl (fun c2 => ?_) (fun c2 => ?_)
            · rw [if_neg (fun z => by rw [sp_b1 c2] at z; exact absurd z.2 (by decide))] at kk
              exact kk k2 rfl hk2
            · rw [if_pos ⟨h1, sp_b0 c2⟩] at kk
              refine js_iinc rfl rfl (nI_1 k2) rfl (by decide) rfl ?_
              refine jw_goto 75 rfl rfl ?_
              exact ih (k2 + 1) h1 (by omega) kk
          refine jw_aload_n rfl rfl ?_
          refine jw_iload rfl rfl ?_
          refine jw_iload_n rfl rfl ?_
          refine jw_iload rfl rfl ?_
          cases th with
          | true =>
            refine jw_if_eq 96 rfl rfl (fun c => absurd c (by decide)) (fun _ => ?_)
            refine jw_ldc2 rfl q_M_260 ?_
            refine jw_goto 99 rfl rfl ?_
            refine js_call (As := [.inl (nI k2), .inl (nI e), .inr (.inl _)]) rfl l_M_stands c_M_199 i_M_stands s_M_stands jc_o8 rfl (hm1.1) rfl (cm_st hg sw_260 hm1 ht1 (by omega) he ?_) (by decide) (Nat.le_of_ble_eq_true rfl) (by omega) (by omega) rfl
            exact behind _ rfl
          | false =>
            refine jw_if_eq 96 rfl rfl (fun _ => ?_) (fun c => absurd rfl c)
            refine jw_ldc2 rfl q_M_262 ?_
            refine js_call (As := [.inl (nI k2), .inl (nI e), .inr (.inl _)]) rfl l_M_stands c_M_199 i_M_stands s_M_stands jc_o8 rfl (hm1.1) rfl (cm_st hg sw_262 hm1 ht1 (by omega) he ?_) (by decide) (Nat.le_of_ble_eq_true rfl) (by omega) (by omega) rfl
            exact behind _ rfl
    refine lp2 (e - sp_f t p e) (sp_f t p e) hf (by omega) (fun q hq hqe => ?_)
    have eq1 : q = sp_q t p e := by rw [hq, sp_q, hth2]
    have hfq : sp_f t p e ≤ q := by
      rw [hq]; exact (sp_fd_le t e _ _ _ hf).2
    refine jw_iload rfl rfl ?_
    refine jw_iload_n rfl rfl ?_
    refine jw_icmp_lt 119 rfl rfl (fun c2 => ?_) (fun c2 => ?_)
    rotate_left
    · have h2 : ¬ q < e := fun z => c2 ((nI_ltI (by omega) (by omega)).mpr z)
      refine js_iconst (x := (-1)) rfl rfl ?_
      refine jw_ireturn rfl rfl rfl ?_
      have := q1 (by omega) (by omega)
      rw [← ek] at this
      exact this
    have h2 : q < e := (nI_ltI (by omega) (by omega)).mp c2
    refine jw_aload_n rfl rfl ?_
    refine jw_gr rfl g_M_74 hm1.1 (mo_r hm1 13 rfl) ?_
    refine jw_iload_n rfl rfl ?_
    refine jw_iload rfl rfl ?_
    refine jw_iload rfl rfl ?_
    refine jw_iadd rfl ?_
    rw [nI_add, ef2]
    refine js_iast (j) rfl (mo_a hm1 13 rfl) (by decide) (by rfl)  rfl (by omega) (by decide) ?_
    refine jw_aload_n rfl rfl ?_
    refine jw_gr rfl g_M_77 (mo_sI hm1).1 (mo_r (mo_sI hm1) 14 rfl) ?_
    refine jw_iload_n rfl rfl ?_
    refine jw_iload rfl rfl ?_
    refine js_iast (j) rfl (mo_a (mo_sI hm1) 14 rfl) (by decide) (by rfl)  rfl (by omega) (by decide) ?_
    refine jw_aload_n rfl rfl ?_
    refine jw_gr rfl g_M_71 (mo_sI (mo_sI hm1)).1 (mo_r (mo_sI (mo_sI hm1)) 12 rfl) ?_
    refine jw_iload_n rfl rfl ?_
    refine jw_iload rfl rfl ?_
    refine jw_iload rfl rfl ?_
    refine jw_iadd rfl ?_
    rw [nI_add]
    refine js_iast (j) rfl (mo_a (mo_sI (mo_sI hm1)) 12 rfl) (by decide) (by rfl)  rfl (by omega) (by decide) ?_
    refine jw_aload_n rfl rfl ?_
    refine jw_gr rfl g_M_80 (mo_sI (mo_sI (mo_sI hm1))).1 (mo_r (mo_sI (mo_sI (mo_sI hm1))) 15 rfl) ?_
    refine jw_iload_n rfl rfl ?_
    refine jw_aload_n rfl rfl ?_
    refine jw_iload rfl rfl ?_
    refine jw_iload rfl rfl ?_
    refine jw_iadd rfl ?_
    rw [nI_add, ef2]
    have hm4 : mo_ok (jh_sI (jh_sI (jh_sI (jh_sI h (ar 530) j (nI k)) (ar 532) j (nI (sp_f t p e))) (ar 533) j (nI q)) (ar 531) j (nI (q + sp_n th))) mo ar := hm
    have ht4 : mo_tx (jh_sI (jh_sI (jh_sI (jh_sI h (ar 530) j (nI k)) (ar 532) j (nI (sp_f t p e))) (ar 533) j (nI q)) (ar 531) j (nI (q + sp_n th))) ar t := mo_tx_s hm (mo_tx_s hm (mo_tx_s hm ht1 13 rfl (by decide) j _) 14 rfl (by decide) j _) 12 rfl (by decide) j _
    refine jw_iload rfl rfl ?_
    refine jw_iload rfl rfl ?_
    refine js_call (As := [.inl (nI (sp_f t p e)), .inl (nI q), .inl (sp_b th)]) rfl l_M_sortOf c_M_264 i_M_sortOf s_M_sortOf jc_o8 rfl (hm4.1) rfl (cm_sortOf hg hm4 ht4 hfq (by omega) ?_) (by decide) (Nat.le_of_ble_eq_true rfl) (by omega) (by omega) rfl
    refine js_iast (j) rfl (mo_a (mo_sI (mo_sI (mo_sI hm1))) 15 rfl) (by decide) (by rfl)  rfl (by omega) (by decide) ?_
    refine jw_aload_n rfl rfl ?_
    refine jw_gr rfl g_M_83 (mo_sI (mo_sI (mo_sI (mo_sI hm1)))).1 (mo_r (mo_sI (mo_sI (mo_sI (mo_sI hm1)))) 16 rfl) ?_
    refine jw_iload_n rfl rfl ?_
    refine js_iconst (x := (-1)) rfl rfl ?_
    refine js_iast (j) rfl (mo_a (mo_sI (mo_sI (mo_sI (mo_sI hm1)))) 16 rfl) (by decide) (by rfl)  rfl (by omega) (by decide) ?_
    refine jw_aload_n rfl rfl ?_
    refine jw_gr rfl g_M_86 (mo_sI (mo_sI (mo_sI (mo_sI (mo_sI hm1))))).1 (mo_r (mo_sI (mo_sI (mo_sI (mo_sI (mo_sI hm1))))) 17 rfl) ?_
    refine jw_iload_n rfl rfl ?_
    refine js_iconst (x := (-1)) rfl rfl ?_
    refine js_iast (j) rfl (mo_a (mo_sI (mo_sI (mo_sI (mo_sI (mo_sI hm1))))) 17 rfl) (by decide) (by rfl)  rfl (by omega) (by decide) ?_
    refine jw_aload_n rfl rfl ?_
    refine jw_gr rfl g_M_80 (mo_sI (mo_sI (mo_sI (mo_sI (mo_sI (mo_sI hm1)))))).1 (mo_r (mo_sI (mo_sI (mo_sI (mo_sI (mo_sI (mo_sI hm1)))))) 15 rfl) ?_
    refine jw_iload_n rfl rfl ?_
    refine js_iald (j) rfl (mo_a (mo_sI (mo_sI (mo_sI (mo_sI (mo_sI (mo_sI hm1)))))) 15 rfl) (by decide) (by rfl)  rfl (by omega) (by decide) ?_
    have fin := q2 (by omega) (by omega)
    rw [← ek, ← eq1, ← hth2] at fin
    have ers : jh_I (tg_set h ar j k (sp_f t p e) q (sp_n th) (sp_sort t (sp_f t p e) q th)) (ar 534) j = sp_o (sp_sort t (sp_f t p e) q th) := by
      show jh_u (jh_u (jh_u _ (ar 534) j _) (ar 535) j (-1)) (ar 536) j (-1) (ar 534) j = _
      rw [jh_u_a _ _ _ _ (mo_ne hm 15 17 rfl rfl (by decide)), jh_u_a _ _ _ _ (mo_ne hm 15 16 rfl rfl (by decide)), jh_u_s]
    refine jw_if_ge 195 rfl rfl (fun c3 => ?_) (fun c3 => ?_)
    · replace c3 : 0 ≤ jh_I (tg_set h ar j k (sp_f t p e) q (sp_n th) (sp_sort t (sp_f t p e) q th)) (ar 534) j := c3
      rw [ers] at c3
      have hsome : (sp_sort t (sp_f t p e) q th).isSome = true := by
        cases hs : sp_sort t (sp_f t p e) q th with
        | none => rw [hs] at c3; exact absurd c3 (by decide)
        | some s => rfl
      rw [hsome] at fin
      refine js_iconst (x := 1) rfl rfl ?_
      refine jw_ireturn rfl rfl rfl ?_
      exact fin
    · replace c3 : ¬ 0 ≤ jh_I (tg_set h ar j k (sp_f t p e) q (sp_n th) (sp_sort t (sp_f t p e) q th)) (ar 534) j := c3
      rw [ers] at c3
      have hnone : (sp_sort t (sp_f t p e) q th).isSome = false := by
        cases hs : sp_sort t (sp_f t p e) q th with
        | none => rfl
        | some s =>
          rw [hs] at c3
          refine absurd (nI_pos' (n := s) ?_) c3
          have : s ≤ 10 := sp_sort_le hs
          omega
      rw [hnone] at fin
      refine js_iconst (x := (-1)) rfl rfl ?_
      refine jw_goto 196 rfl rfl ?_
      refine jw_ireturn rfl rfl rfl ?_
      exact fin
  refine jw_if_eq 65 rfl rfl (fun c2 => ?_) (fun c2 => ?_)
  · have := sp_b0 c2
    refine js_iconst (x := 2) rfl rfl ?_
    have := go false this.symm
    rw [sp_b0 c2]
    exact this
  · have := sp_b1 c2
    refine js_iconst (x := 3) rfl rfl ?_
    refine jw_goto 66 rfl rfl ?_
    have := go true this.symm
    rw [sp_b1 c2]
    exact this
set_option maxHeartbeats 4000000 in
set_option maxRecDepth 100000 in
theorem cm_fit {g : jg_G} (hg : (jg_l g).stackTraces = false) {h : jh_H} {mo j dl s b sb : Nat} {ar : Nat → Nat} {Q : jw_O → jh_H → Prop} (hm : mo_ok h mo ar) (hj : j < 250) (hdl : dl ≤ 4) (hs : jh_I h (ar 534) j = nI s) (hs10 : s ≤ 10) (hb : 0 < dl → jh_I h (ar 537) (dl - 1) = nI b ∧ b < 250 ∧ jh_I h (ar 534) b = nI sb ∧ sb ≤ 10)
    (qA : 2 < s → s < 6 → dl = 4 → Q (.inl (some (.inl (-1)))) h) (qB : 2 < s → s < 6 → dl < 4 → Q (.inl (some (.inl (nI (dl + 1))))) (jh_sI h (ar 537) dl (nI j))) (qC : s ≤ 2 ∨ s = 10 → Q (.inl (some (.inl (nI dl)))) h) (qD : 6 ≤ s → s ≤ 9 → dl = 0 → Q (.inl (some (.inl (-1)))) h)
    (qE : s = 6 → 0 < dl → 0 ≤ jh_I h (ar 535) b → Q (.inl (some (.inl (-1)))) (jh_sI h (ar 536) j (nI b))) (qE2 : s = 6 → 0 < dl → ¬ 0 ≤ jh_I h (ar 535) b → Q (.inl (some (.inl (nI dl)))) (jh_sI (jh_sI h (ar 536) j (nI b)) (ar 535) b (nI j)))
    (qF : 7 ≤ s → s ≤ 9 → 0 < dl → sb ≠ s - 4 → Q (.inl (some (.inl (-1)))) (jh_sI h (ar 536) j (nI b))) (qF2 : 7 ≤ s → s ≤ 9 → 0 < dl → sb = s - 4 → Q (.inl (some (.inl (nI (dl - 1))))) (jh_sI (jh_sI h (ar 536) j (nI b)) (ar 536) b (nI j))) :
    jw_C g 0 0 0 m_M_fit [.inr (.inr (some mo)), .inl (nI j), .inl (nI dl)] h Q := by
  refine jw_intro (ls := [some (.inr (.inr (some mo))), some (.inl (nI j)), some (.inl (nI dl)), none, none]) (by decide) k_M_fit rfl (by simp [lo_fit, jv_c]) hg ?_
  refine jw_aload_n rfl rfl ?_
  refine jw_gr rfl g_M_80 hm.1 (mo_r hm 15 rfl) ?_
  refine jw_iload_n rfl rfl ?_
  refine js_iald (j) rfl (mo_a hm 15 rfl) (by decide) (by rfl)  rfl (by omega) (by decide) ?_
  rw [hs]
  have at36 : (s ≤ 2 ∨ 6 ≤ s) → jw_J g 0 m_M_fit jw_T0 36 [some (.inr (.inr (some mo))), some (.inl (nI j)), some (.inl (nI dl)), some (.inl (nI s)), none] [] h 0 0 Q := by
    intro h36
    have at48 : (s ≤ 2 ∨ s = 10) → jw_J g 0 m_M_fit jw_T0 48 [some (.inr (.inr (some mo))), some (.inl (nI j)), some (.inl (nI dl)), some (.inl (nI s)), none] [] h 0 0 Q := by
      intro hc
      refine jw_iload_n rfl rfl ?_
      refine jw_ireturn rfl rfl rfl ?_
      exact qC hc
    refine jw_iload_n rfl rfl ?_
    refine js_bipush (x := 6) rfl rfl ?_
    refine jw_icmp_lt 48 rfl rfl (fun c1 => at48 (by have := (nI_ltI (b := 6) (by omega) (by omega)).mp c1; omega)) (fun c1 => ?_)
    have h6 : ¬ s < 6 := fun z => c1 ((nI_ltI (b := 6) (by omega) (by omega)).mpr z)
    refine jw_iload_n rfl rfl ?_
    refine js_bipush (x := 10) rfl rfl ?_
    refine jw_icmp_ne 50 rfl rfl (fun c2 => ?_) (fun c2 => at48 (Or.inr ((nI_eq (b := 10) (by omega) (by omega)).mp c2)))
    have h10 : ¬ s = 10 := fun z => c2 (by rw [z]; rfl)
    refine jw_iload_n rfl rfl ?_
    refine jw_if_ne 56 rfl rfl (fun c3 => ?_) (fun c3 => ?_)
    rotate_left
    · have h3 : dl = 0 := (nI_eq (b := 0) (by omega) (by omega)).mp c3
      refine js_iconst (x := (-1)) rfl rfl ?_
      refine jw_ireturn rfl rfl rfl ?_
      exact qD (by omega) (by omega) h3
    have h3 : 0 < dl := Nat.pos_of_ne_zero (fun z => c3 (by rw [z]; rfl))
    obtain ⟨hb1, hb2, hb3, hb4⟩ := hb h3
    refine jw_aload_n rfl rfl ?_
    refine jw_gr rfl g_M_89 hm.1 (mo_r hm 18 rfl) ?_
    refine jw_iload_n rfl rfl ?_
    refine js_iconst (x := 1) rfl rfl ?_
    refine jw_isub rfl ?_
    rw [show nI dl - 1 = nI (dl - 1) from pk_sub (b := 1) h3]
    refine js_iald (dl - 1) rfl (mo_a hm 18 rfl) (by decide) (by rfl)  rfl (by omega) (by decide) ?_
    rw [hb1]
    refine js_istore rfl rfl (by decide) rfl ?_
    refine jw_aload_n rfl rfl ?_
    refine jw_gr rfl g_M_86 hm.1 (mo_r hm 17 rfl) ?_
    refine jw_iload_n rfl rfl ?_
    refine jw_iload rfl rfl ?_
    refine js_iast (j) rfl (mo_a hm 17 rfl) (by decide) (by rfl)  rfl (by omega) (by decide) ?_
    refine jw_iload_n rfl rfl ?_
    refine js_bipush (x := 6) rfl rfl ?_
    refine jw_icmp_ne 102 rfl rfl (fun c4 => ?_) (fun c4 => ?_)
    · have h7 : ¬ s = 6 := fun z => c4 (by rw [z]; rfl)
      refine jw_aload_n rfl rfl ?_
      refine jw_gr rfl g_M_80 (mo_sI hm).1 (mo_r (mo_sI hm) 15 rfl) ?_
      refine jw_iload rfl rfl ?_
      refine js_iald (b) rfl (mo_a (mo_sI hm) 15 rfl) (by decide) (by rfl)  rfl (by omega) (by decide) ?_
      rw [show jh_I (jh_sI h (ar 536) j (nI b)) (ar 534) b = nI sb from (jh_u_a _ _ _ _ (mo_ne hm 15 17 rfl rfl (by decide))).trans hb3]
      refine jw_iload_n rfl rfl ?_
      refine js_iconst (x := 4) rfl rfl ?_
      refine jw_isub rfl ?_
      rw [show nI s - 4 = nI (s - 4) from pk_sub (b := 4) (by omega)]
      refine jw_icmp_eq 117 rfl rfl (fun c5 => ?_) (fun c5 => ?_)
      · have h5 : sb = s - 4 := (nI_eq (by omega) (by omega)).mp c5
        refine jw_aload_n rfl rfl ?_
        refine jw_gr rfl g_M_86 (mo_sI hm).1 (mo_r (mo_sI hm) 17 rfl) ?_
        refine jw_iload rfl rfl ?_
        refine jw_iload_n rfl rfl ?_
        refine js_iast (b) rfl (mo_a (mo_sI hm) 17 rfl) (by decide) (by rfl)  rfl (by omega) (by decide) ?_
        refine jw_iload_n rfl rfl ?_
        refine js_iconst (x := 1) rfl rfl ?_
        refine jw_isub rfl ?_
        rw [show nI dl - 1 = nI (dl - 1) from pk_sub (b := 1) h3]
        refine jw_ireturn rfl rfl rfl ?_
        exact qF2 (by omega) (by omega) h3 h5
      · have h5 : ¬ sb = s - 4 := fun z => c5 (by rw [z])
        refine js_iconst (x := (-1)) rfl rfl ?_
        refine jw_ireturn rfl rfl rfl ?_
        exact qF (by omega) (by omega) h3 h5
    · have h7 : s = 6 := (nI_eq (b := 6) (by omega) (by omega)).mp c4
      refine jw_aload_n rfl rfl ?_
      refine jw_gr rfl g_M_83 (mo_sI hm).1 (mo_r (mo_sI hm) 16 rfl) ?_
      refine jw_iload rfl rfl ?_
      refine js_iald (b) rfl (mo_a (mo_sI hm) 16 rfl) (by decide) (by rfl)  rfl (by omega) (by decide) ?_
      rw [show jh_I (jh_sI h (ar 536) j (nI b)) (ar 535) b = jh_I h (ar 535) b from jh_u_a _ _ _ _ (mo_ne hm 16 17 rfl rfl (by decide))]
      refine jw_if_lt 92 rfl rfl (fun c5 => ?_) (fun c5 => ?_)
      · refine jw_aload_n rfl rfl ?_
        refine jw_gr rfl g_M_83 (mo_sI hm).1 (mo_r (mo_sI hm) 16 rfl) ?_
        refine jw_iload rfl rfl ?_
        refine jw_iload_n rfl rfl ?_
        refine js_iast (b) rfl (mo_a (mo_sI hm) 16 rfl) (by decide) (by rfl)  rfl (by omega) (by decide) ?_
        refine jw_iload_n rfl rfl ?_
        refine jw_ireturn rfl rfl rfl ?_
        exact qE2 h7 h3 (Int32.not_le.mpr c5)
      · refine js_iconst (x := (-1)) rfl rfl ?_
        refine jw_ireturn rfl rfl rfl ?_
        exact qE h7 h3 (Int32.not_lt.mp c5)
  refine js_istore_n rfl rfl (by decide) rfl ?_
  refine jw_iload_n rfl rfl ?_
  refine js_iconst (x := 2) rfl rfl ?_
  refine jw_icmp_le 36 rfl rfl (fun c1 => at36 (Or.inl ((nI_leI (b := 2) (by omega) (by omega)).mp c1))) (fun c1 => ?_)
  have h2 : ¬ s ≤ 2 := fun z => c1 ((nI_leI (b := 2) (by omega) (by omega)).mpr z)
  refine jw_iload_n rfl rfl ?_
  refine js_bipush (x := 6) rfl rfl ?_
  refine jw_icmp_ge 36 rfl rfl (fun c2 => at36 (Or.inr ((nI_leI (a := 6) (by omega) (by omega)).mp c2))) (fun c2 => ?_)
  have h6 : s < 6 := Nat.lt_of_not_le (fun z => c2 ((nI_leI (a := 6) (by omega) (by omega)).mpr z))
  refine jw_iload_n rfl rfl ?_
  refine js_iconst (x := 4) rfl rfl ?_
  refine jw_icmp_ne 25 rfl rfl (fun c3 => ?_) (fun c3 => ?_)
  · have h4 : ¬ dl = 4 := fun z => c3 (by rw [z]; rfl)
    refine jw_aload_n rfl rfl ?_
    refine jw_gr rfl g_M_89 hm.1 (mo_r hm 18 rfl) ?_
    refine jw_iload_n rfl rfl ?_
    refine jw_iload_n rfl rfl ?_
    refine js_iast (dl) rfl (mo_a hm 18 rfl) (by decide) (by rfl)  rfl (by omega) (by decide) ?_
    refine jw_iload_n rfl rfl ?_
    refine js_iconst (x := 1) rfl rfl ?_
    refine jw_iadd rfl ?_
    rw [show nI dl + 1 = nI (dl + 1) from nI_1 dl]
    refine jw_ireturn rfl rfl rfl ?_
    exact qB (by omega) h6 (by omega)
  · have h4 : dl = 4 := (nI_eq (b := 4) (by omega) (by omega)).mp c3
    refine js_iconst (x := (-1)) rfl rfl ?_
    refine jw_ireturn rfl rfl rfl ?_
    exact qA (by omega) h6 h4
end
section
/-! TAKING A TEMPLATE APART, as a function: the tags' table, what is open, whose else and end is where -/
abbrev pp_T : Type := Nat → Nat × Nat × Nat × Nat × Nat
abbrev pp_O : Type := Nat → Option Nat
def pp_fit (i s : Nat) (so : Nat → Nat) (d : Nat) (os : Nat → Nat) (ot la : pp_O) : Option (Nat × (Nat → Nat) × pp_O × pp_O) :=
  if 2 < s ∧ s < 6 then (if d = 4 then none else some (d + 1, va_up os d i, ot, la))
  else if s ≤ 2 ∨ s = 10 then some (d, os, ot, la)
  else if d = 0 then none
  else if s = 6 then (if (ot (os (d - 1))).isSome then none else some (d, os, va_up ot (os (d - 1)) (some i), va_up la i (some (os (d - 1)))))
  else if so (os (d - 1)) ≠ s - 4 then none
  else some (d - 1, os, ot, va_up (va_up la i (some (os (d - 1)))) (os (d - 1)) (some i))
def pp_new (t : Nat → Nat) (p e s : Nat) : Nat × Nat × Nat × Nat × Nat := (sp_k t p e, sp_f t p e, sp_q t p e, sp_q t p e + sp_n (sp_th t p e), s)
/-- from p on, with n tags taken: the fault's place, or the table -/
def pp (t : Nat → Nat) (e : Nat) : Nat → Nat → Nat → pp_T → Nat → (Nat → Nat) → pp_O → pp_O → Nat ⊕ (Nat × pp_T × pp_O × pp_O)
  | 0, p, _, _, _, _, _, _ => .inl p
  | f + 1, p, n, T, d, os, ot, la =>
    if e ≤ sp_k t p e then (if 0 < d then .inl (T (os (d - 1))).1 else .inr (n, T, ot, la))
    else if e ≤ sp_q t p e then .inl (sp_k t p e)
    else match sp_sort t (sp_f t p e) (sp_q t p e) (sp_th t p e) with
      | none => .inl (sp_k t p e)
      | some s => match pp_fit n s (fun x => (va_up T n (pp_new t p e s) x).2.2.2.2) d os (va_up ot n none) (va_up la n none) with
        | none => .inl (sp_k t p e)
        | some (d', os', ot', la') => pp t e f (sp_q t p e + sp_n (sp_th t p e)) (n + 1) (va_up T n (pp_new t p e s)) d' os' ot' la'
def pp_all (t : Nat → Nat) (p e : Nat) : Nat ⊕ (Nat × pp_T × pp_O × pp_O) := pp t e (e - p + 1) p 0 (fun _ => (0, 0, 0, 0, 0)) 0 (fun _ => 0) (fun _ => none) (fun _ => none)
/-- which cells of which rows may have changed -/
def mo_fr (h h' : jh_H) (ar : Nat → Nat) (F : Nat → Nat → Prop) : Prop := jh_L h' = jh_L h ∧ jh_K h' = jh_K h ∧ jh_i h' = jh_i h ∧ jh_g h' = jh_g h ∧ jh_r h' = jh_r h ∧ jh_G h' = jh_G h ∧ jh_R h' = jh_R h ∧ ∀ b j, (∀ k, F k j → b ≠ ar k) → jh_I h' b j = jh_I h b j
theorem mo_fr.rf {h : jh_H} {ar : Nat → Nat} {F : Nat → Nat → Prop} : mo_fr h h ar F := ⟨rfl, rfl, rfl, rfl, rfl, rfl, rfl, fun _ _ _ => rfl⟩
theorem mo_fr.sI {h h' : jh_H} {ar : Nat → Nat} {F : Nat → Nat → Prop} (hf : mo_fr h h' ar F) {k j : Nat} {v : Int32} (hk : F k j) : mo_fr h (jh_sI h' (ar k) j v) ar F := by
  obtain ⟨h1, h2, h3, h4, h5, h6, h7, h8⟩ := hf
  refine ⟨h1, h2, h3, h4, h5, h6, h7, fun b i hb => ?_⟩
  rw [← h8 b i hb]
  show jh_u (jh_I h') (ar k) j v b i = jh_I h' b i
  by_cases q : b = ar k
  · by_cases q2 : i = j
    · subst q2; exact absurd q (hb k hk)
    · exact jh_u_k _ _ _ _ q2
  · exact jh_u_a _ _ _ _ q
theorem mo_fr.ok {h h' : jh_H} {mo : Nat} {ar : Nat → Nat} {F : Nat → Nat → Prop} (hf : mo_fr h h' ar F) (hm : mo_ok h mo ar) : mo_ok h' mo ar := by
  obtain ⟨h1, h2, h3, h4, h5, h6, h7, h8⟩ := hf
  refine ⟨⟨by rw [h1]; exact hm.1.1, by rw [h2]; exact hm.1.2⟩, fun x hx => ⟨by rw [h5]; exact (hm.2.1 x hx).1, ?_⟩, hm.2.2⟩
  have := (hm.2.1 x hx).2
  exact ⟨by rw [h1]; exact this.1, by rw [h2]; exact this.2⟩
/-- the rows hold the table of n tags, from place a on -/
def mt_o (a : Nat) (r : Option Nat) : Int32 := match r with
  | none => -1
  | some x => nI (a + x)
def mt_at (h : jh_H) (ar : Nat → Nat) (a i : Nat) (x : Nat × Nat × Nat × Nat × Nat) (o l : Option Nat) : Prop := jh_I h (ar 530) (a + i) = nI x.1 ∧ jh_I h (ar 532) (a + i) = nI x.2.1 ∧ jh_I h (ar 533) (a + i) = nI x.2.2.1 ∧ jh_I h (ar 531) (a + i) = nI x.2.2.2.1 ∧ jh_I h (ar 534) (a + i) = nI x.2.2.2.2 ∧ jh_I h (ar 535) (a + i) = mt_o a o ∧ jh_I h (ar 536) (a + i) = mt_o a l
def mt_ok (h : jh_H) (ar : Nat → Nat) (a n : Nat) (T : pp_T) (ot la : pp_O) : Prop := ∀ i, i < n → mt_at h ar a i (T i) (ot i) (la i)
/-- what takeApart may change -/
def ta_F (k j : Nat) : Prop := (k = 526 ∧ 800 ≤ j) ∨ (530 ≤ k ∧ k ≤ 536 ∧ 200 ≤ j) ∨ k = 537 ∨ (k = 528 ∧ j = 4)
theorem mt_o_neg (a : Nat) {r : Option Nat} (hr : ∀ x, r = some x → a + x < 1000) : 0 ≤ mt_o a r ↔ r.isSome = true := by
  cases r with
  | none => constructor
            · intro h; exact absurd (show (0 : Int32) ≤ -1 from h) (by decide)
            · intro h; cases h
  | some x => constructor
              · intro _; rfl
              · intro _; exact nI_pos' (by have := hr x rfl; omega)
theorem tg_530 {h h0 : jh_H} {mo : Nat} {ar : Nat → Nat} (hm : mo_ok h0 mo ar) (j k f q n : Nat) (s : Option Nat) (x : Nat) : jh_I (tg_set h ar j k f q n s) (ar 530) x = if x = j then nI k else jh_I h (ar 530) x := by
  show (jh_u (jh_u (jh_u (jh_u (jh_u (jh_u (jh_u (jh_I h) (ar 530) j (nI k)) (ar 532) j (nI f)) (ar 533) j (nI q)) (ar 531) j (nI (q + n))) (ar 534) j (sp_o s)) (ar 535) j (-1)) (ar 536) j (-1)) (ar 530) x = _
  rw [jh_u_a _ _ _ _ (mo_ne hm 11 17 rfl rfl (by decide)), jh_u_a _ _ _ _ (mo_ne hm 11 16 rfl rfl (by decide)), jh_u_a _ _ _ _ (mo_ne hm 11 15 rfl rfl (by decide)), jh_u_a _ _ _ _ (mo_ne hm 11 12 rfl rfl (by decide)), jh_u_a _ _ _ _ (mo_ne hm 11 14 rfl rfl (by decide)), jh_u_a _ _ _ _ (mo_ne hm 11 13 rfl rfl (by decide))]
  by_cases z : x = j
  · subst z; rw [if_pos rfl, jh_u_s]
  · rw [if_neg z, jh_u_k _ _ _ _ z]
theorem tg_532 {h h0 : jh_H} {mo : Nat} {ar : Nat → Nat} (hm : mo_ok h0 mo ar) (j k f q n : Nat) (s : Option Nat) (x : Nat) : jh_I (tg_set h ar j k f q n s) (ar 532) x = if x = j then nI f else jh_I h (ar 532) x := by
  show (jh_u (jh_u (jh_u (jh_u (jh_u (jh_u (jh_u (jh_I h) (ar 530) j (nI k)) (ar 532) j (nI f)) (ar 533) j (nI q)) (ar 531) j (nI (q + n))) (ar 534) j (sp_o s)) (ar 535) j (-1)) (ar 536) j (-1)) (ar 532) x = _
  rw [jh_u_a _ _ _ _ (mo_ne hm 13 17 rfl rfl (by decide)), jh_u_a _ _ _ _ (mo_ne hm 13 16 rfl rfl (by decide)), jh_u_a _ _ _ _ (mo_ne hm 13 15 rfl rfl (by decide)), jh_u_a _ _ _ _ (mo_ne hm 13 12 rfl rfl (by decide)), jh_u_a _ _ _ _ (mo_ne hm 13 14 rfl rfl (by decide))]
  by_cases z : x = j
  · subst z; rw [if_pos rfl, jh_u_s]
  · rw [if_neg z, jh_u_k _ _ _ _ z, jh_u_a _ _ _ _ (mo_ne hm 13 11 rfl rfl (by decide))]
theorem tg_533 {h h0 : jh_H} {mo : Nat} {ar : Nat → Nat} (hm : mo_ok h0 mo ar) (j k f q n : Nat) (s : Option Nat) (x : Nat) : jh_I (tg_set h ar j k f q n s) (ar 533) x = if x = j then nI q else jh_I h (ar 533) x := by
  show (jh_u (jh_u (jh_u (jh_u (jh_u (jh_u (jh_u (jh_I h) (ar 530) j (nI k)) (ar 532) j (nI f)) (ar 533) j (nI q)) (ar 531) j (nI (q + n))) (ar 534) j (sp_o s)) (ar 535) j (-1)) (ar 536) j (-1)) (ar 533) x = _
  rw [jh_u_a _ _ _ _ (mo_ne hm 14 17 rfl rfl (by decide)), jh_u_a _ _ _ _ (mo_ne hm 14 16 rfl rfl (by decide)), jh_u_a _ _ _ _ (mo_ne hm 14 15 rfl rfl (by decide)), jh_u_a _ _ _ _ (mo_ne hm 14 12 rfl rfl (by decide))]
  by_cases z : x = j
  · subst z; rw [if_pos rfl, jh_u_s]
  · rw [if_neg z, jh_u_k _ _ _ _ z, jh_u_a _ _ _ _ (mo_ne hm 14 13 rfl rfl (by decide)), jh_u_a _ _ _ _ (mo_ne hm 14 11 rfl rfl (by decide))]
theorem tg_531 {h h0 : jh_H} {mo : Nat} {ar : Nat → Nat} (hm : mo_ok h0 mo ar) (j k f q n : Nat) (s : Option Nat) (x : Nat) : jh_I (tg_set h ar j k f q n s) (ar 531) x = if x = j then nI (q + n) else jh_I h (ar 531) x := by
  show (jh_u (jh_u (jh_u (jh_u (jh_u (jh_u (jh_u (jh_I h) (ar 530) j (nI k)) (ar 532) j (nI f)) (ar 533) j (nI q)) (ar 531) j (nI (q + n))) (ar 534) j (sp_o s)) (ar 535) j (-1)) (ar 536) j (-1)) (ar 531) x = _
  rw [jh_u_a _ _ _ _ (mo_ne hm 12 17 rfl rfl (by decide)), jh_u_a _ _ _ _ (mo_ne hm 12 16 rfl rfl (by decide)), jh_u_a _ _ _ _ (mo_ne hm 12 15 rfl rfl (by decide))]
  by_cases z : x = j
  · subst z; rw [if_pos rfl, jh_u_s]
  · rw [if_neg z, jh_u_k _ _ _ _ z, jh_u_a _ _ _ _ (mo_ne hm 12 14 rfl rfl (by decide)), jh_u_a _ _ _ _ (mo_ne hm 12 13 rfl rfl (by decide)), jh_u_a _ _ _ _ (mo_ne hm 12 11 rfl rfl (by decide))]
theorem tg_534 {h h0 : jh_H} {mo : Nat} {ar : Nat → Nat} (hm : mo_ok h0 mo ar) (j k f q n : Nat) (s : Option Nat) (x : Nat) : jh_I (tg_set h ar j k f q n s) (ar 534) x = if x = j then sp_o s else jh_I h (ar 534) x := by
  show (jh_u (jh_u (jh_u (jh_u (jh_u (jh_u (jh_u (jh_I h) (ar 530) j (nI k)) (ar 532) j (nI f)) (ar 533) j (nI q)) (ar 531) j (nI (q + n))) (ar 534) j (sp_o s)) (ar 535) j (-1)) (ar 536) j (-1)) (ar 534) x = _
  rw [jh_u_a _ _ _ _ (mo_ne hm 15 17 rfl rfl (by decide)), jh_u_a _ _ _ _ (mo_ne hm 15 16 rfl rfl (by decide))]
  by_cases z : x = j
  · subst z; rw [if_pos rfl, jh_u_s]
  · rw [if_neg z, jh_u_k _ _ _ _ z, jh_u_a _ _ _ _ (mo_ne hm 15 12 rfl rfl (by decide)), jh_u_a _ _ _ _ (mo_ne hm 15 14 rfl rfl (by decide)), jh_u_a _ _ _ _ (mo_ne hm 15 13 rfl rfl (by decide)), jh_u_a _ _ _ _ (mo_ne hm 15 11 rfl rfl (by decide))]
theorem tg_535 {h h0 : jh_H} {mo : Nat} {ar : Nat → Nat} (hm : mo_ok h0 mo ar) (j k f q n : Nat) (s : Option Nat) (x : Nat) : jh_I (tg_set h ar j k f q n s) (ar 535) x = if x = j then -1 else jh_I h (ar 535) x := by
  show (jh_u (jh_u (jh_u (jh_u (jh_u (jh_u (jh_u (jh_I h) (ar 530) j (nI k)) (ar 532) j (nI f)) (ar 533) j (nI q)) (ar 531) j (nI (q + n))) (ar 534) j (sp_o s)) (ar 535) j (-1)) (ar 536) j (-1)) (ar 535) x = _
  rw [jh_u_a _ _ _ _ (mo_ne hm 16 17 rfl rfl (by decide))]
  by_cases z : x = j
  · subst z; rw [if_pos rfl, jh_u_s]
  · rw [if_neg z, jh_u_k _ _ _ _ z, jh_u_a _ _ _ _ (mo_ne hm 16 15 rfl rfl (by decide)), jh_u_a _ _ _ _ (mo_ne hm 16 12 rfl rfl (by decide)), jh_u_a _ _ _ _ (mo_ne hm 16 14 rfl rfl (by decide)), jh_u_a _ _ _ _ (mo_ne hm 16 13 rfl rfl (by decide)), jh_u_a _ _ _ _ (mo_ne hm 16 11 rfl rfl (by decide))]
theorem tg_536 {h h0 : jh_H} {mo : Nat} {ar : Nat → Nat} (hm : mo_ok h0 mo ar) (j k f q n : Nat) (s : Option Nat) (x : Nat) : jh_I (tg_set h ar j k f q n s) (ar 536) x = if x = j then -1 else jh_I h (ar 536) x := by
  show (jh_u (jh_u (jh_u (jh_u (jh_u (jh_u (jh_u (jh_I h) (ar 530) j (nI k)) (ar 532) j (nI f)) (ar 533) j (nI q)) (ar 531) j (nI (q + n))) (ar 534) j (sp_o s)) (ar 535) j (-1)) (ar 536) j (-1)) (ar 536) x = _
  by_cases z : x = j
  · subst z; rw [if_pos rfl, jh_u_s]
  · rw [if_neg z, jh_u_k _ _ _ _ z, jh_u_a _ _ _ _ (mo_ne hm 17 16 rfl rfl (by decide)), jh_u_a _ _ _ _ (mo_ne hm 17 15 rfl rfl (by decide)), jh_u_a _ _ _ _ (mo_ne hm 17 12 rfl rfl (by decide)), jh_u_a _ _ _ _ (mo_ne hm 17 14 rfl rfl (by decide)), jh_u_a _ _ _ _ (mo_ne hm 17 13 rfl rfl (by decide)), jh_u_a _ _ _ _ (mo_ne hm 17 11 rfl rfl (by decide))]
theorem tg_526 {h h0 : jh_H} {mo : Nat} {ar : Nat → Nat} (hm : mo_ok h0 mo ar) (j k f q n : Nat) (s : Option Nat) (x : Nat) : jh_I (tg_set h ar j k f q n s) (ar 526) x = jh_I h (ar 526) x := by
  show (jh_u (jh_u (jh_u (jh_u (jh_u (jh_u (jh_u (jh_I h) (ar 530) j (nI k)) (ar 532) j (nI f)) (ar 533) j (nI q)) (ar 531) j (nI (q + n))) (ar 534) j (sp_o s)) (ar 535) j (-1)) (ar 536) j (-1)) (ar 526) x = _
  rw [jh_u_a _ _ _ _ (mo_ne hm 7 17 rfl rfl (by decide)), jh_u_a _ _ _ _ (mo_ne hm 7 16 rfl rfl (by decide)), jh_u_a _ _ _ _ (mo_ne hm 7 15 rfl rfl (by decide)), jh_u_a _ _ _ _ (mo_ne hm 7 12 rfl rfl (by decide)), jh_u_a _ _ _ _ (mo_ne hm 7 14 rfl rfl (by decide)), jh_u_a _ _ _ _ (mo_ne hm 7 13 rfl rfl (by decide)), jh_u_a _ _ _ _ (mo_ne hm 7 11 rfl rfl (by decide))]
theorem tg_537 {h h0 : jh_H} {mo : Nat} {ar : Nat → Nat} (hm : mo_ok h0 mo ar) (j k f q n : Nat) (s : Option Nat) (x : Nat) : jh_I (tg_set h ar j k f q n s) (ar 537) x = jh_I h (ar 537) x := by
  show (jh_u (jh_u (jh_u (jh_u (jh_u (jh_u (jh_u (jh_I h) (ar 530) j (nI k)) (ar 532) j (nI f)) (ar 533) j (nI q)) (ar 531) j (nI (q + n))) (ar 534) j (sp_o s)) (ar 535) j (-1)) (ar 536) j (-1)) (ar 537) x = _
  rw [jh_u_a _ _ _ _ (mo_ne hm 18 17 rfl rfl (by decide)), jh_u_a _ _ _ _ (mo_ne hm 18 16 rfl rfl (by decide)), jh_u_a _ _ _ _ (mo_ne hm 18 15 rfl rfl (by decide)), jh_u_a _ _ _ _ (mo_ne hm 18 12 rfl rfl (by decide)), jh_u_a _ _ _ _ (mo_ne hm 18 14 rfl rfl (by decide)), jh_u_a _ _ _ _ (mo_ne hm 18 13 rfl rfl (by decide)), jh_u_a _ _ _ _ (mo_ne hm 18 11 rfl rfl (by decide))]
theorem tg_528 {h h0 : jh_H} {mo : Nat} {ar : Nat → Nat} (hm : mo_ok h0 mo ar) (j k f q n : Nat) (s : Option Nat) (x : Nat) : jh_I (tg_set h ar j k f q n s) (ar 528) x = jh_I h (ar 528) x := by
  show (jh_u (jh_u (jh_u (jh_u (jh_u (jh_u (jh_u (jh_I h) (ar 530) j (nI k)) (ar 532) j (nI f)) (ar 533) j (nI q)) (ar 531) j (nI (q + n))) (ar 534) j (sp_o s)) (ar 535) j (-1)) (ar 536) j (-1)) (ar 528) x = _
  rw [jh_u_a _ _ _ _ (mo_ne hm 9 17 rfl rfl (by decide)), jh_u_a _ _ _ _ (mo_ne hm 9 16 rfl rfl (by decide)), jh_u_a _ _ _ _ (mo_ne hm 9 15 rfl rfl (by decide)), jh_u_a _ _ _ _ (mo_ne hm 9 12 rfl rfl (by decide)), jh_u_a _ _ _ _ (mo_ne hm 9 14 rfl rfl (by decide)), jh_u_a _ _ _ _ (mo_ne hm 9 13 rfl rfl (by decide)), jh_u_a _ _ _ _ (mo_ne hm 9 11 rfl rfl (by decide))]
theorem tg_fr {h h' : jh_H} {ar : Nat → Nat} (hf : mo_fr h h' ar ta_F) {j k f q n : Nat} {s : Option Nat} (hj : 200 ≤ j) : mo_fr h (tg_set h' ar j k f q n s) ar ta_F :=
  mo_fr.sI (mo_fr.sI (mo_fr.sI (mo_fr.sI (mo_fr.sI (mo_fr.sI (mo_fr.sI hf (Or.inr (Or.inl ⟨by decide, by decide, hj⟩))) (Or.inr (Or.inl ⟨by decide, by decide, hj⟩))) (Or.inr (Or.inl ⟨by decide, by decide, hj⟩))) (Or.inr (Or.inl ⟨by decide, by decide, hj⟩))) (Or.inr (Or.inl ⟨by decide, by decide, hj⟩))) (Or.inr (Or.inl ⟨by decide, by decide, hj⟩))) (Or.inr (Or.inl ⟨by decide, by decide, hj⟩))
theorem tg_tx {h h0 : jh_H} {mo : Nat} {ar t : Nat → Nat} (hm : mo_ok h0 mo ar) (ht : mo_tx h ar t) {j k f q n : Nat} {s : Option Nat} : mo_tx (tg_set h ar j k f q n s) ar t := fun i hi => by
  rw [tg_526 hm]; exact ht i hi
theorem tg_mt {h h0 : jh_H} {mo : Nat} {ar : Nat → Nat} (hm : mo_ok h0 mo ar) {a n k f q nn s : Nat} {T : pp_T} {ot la : pp_O} (hmt : mt_ok h ar a n T ot la) : mt_ok (tg_set h ar (a + n) k f q nn (some s)) ar a (n + 1) (va_up T n (k, f, q, q + nn, s)) (va_up ot n none) (va_up la n none) := by
  intro i hi
  rw [mt_at, tg_530 hm, tg_532 hm, tg_533 hm, tg_531 hm, tg_534 hm, tg_535 hm, tg_536 hm]
  by_cases z : i = n
  · subst z
    rw [if_pos rfl, if_pos rfl, if_pos rfl, if_pos rfl, if_pos rfl, if_pos rfl, if_pos rfl, va_up_self, va_up_self, va_up_self]
    exact ⟨rfl, rfl, rfl, rfl, rfl, rfl, rfl⟩
  · have z2 : ¬ a + i = a + n := by omega
    rw [if_neg z2, if_neg z2, if_neg z2, if_neg z2, if_neg z2, if_neg z2, if_neg z2, va_up_ne _ _ z, va_up_ne _ _ z, va_up_ne _ _ z]
    exact hmt i (by omega)
end
section
/-! the model takes the whole line apart -/
theorem mt_537 {h h0 : jh_H} {mo : Nat} {ar : Nat → Nat} (hm : mo_ok h0 mo ar) {a n x : Nat} {v : Int32} {T : pp_T} {ot la : pp_O} (hmt : mt_ok h ar a n T ot la) : mt_ok (jh_sI h (ar 537) x v) ar a n T ot la := by
  intro i hi
  have h1 := hmt i hi
  exact ⟨((jh_u_a _ _ _ _ (mo_ne hm 11 18 rfl rfl (by decide))).trans h1.1), ((jh_u_a _ _ _ _ (mo_ne hm 13 18 rfl rfl (by decide))).trans h1.2.1), ((jh_u_a _ _ _ _ (mo_ne hm 14 18 rfl rfl (by decide))).trans h1.2.2.1), ((jh_u_a _ _ _ _ (mo_ne hm 12 18 rfl rfl (by decide))).trans h1.2.2.2.1), ((jh_u_a _ _ _ _ (mo_ne hm 15 18 rfl rfl (by decide))).trans h1.2.2.2.2.1), ((jh_u_a _ _ _ _ (mo_ne hm 16 18 rfl rfl (by decide))).trans h1.2.2.2.2.2.1), ((jh_u_a _ _ _ _ (mo_ne hm 17 18 rfl rfl (by decide))).trans h1.2.2.2.2.2.2)⟩
theorem mt_535 {h h0 : jh_H} {mo : Nat} {ar : Nat → Nat} (hm : mo_ok h0 mo ar) {a n i0 x : Nat} {T : pp_T} {ot la : pp_O} (hmt : mt_ok h ar a n T ot la) : mt_ok (jh_sI h (ar 535) (a + i0) (nI (a + x))) ar a n T (va_up ot i0 (some x)) la := by
  intro i hi
  have h1 := hmt i hi
  refine ⟨((jh_u_a _ _ _ _ (mo_ne hm 11 16 rfl rfl (by decide))).trans h1.1), ((jh_u_a _ _ _ _ (mo_ne hm 13 16 rfl rfl (by decide))).trans h1.2.1), ((jh_u_a _ _ _ _ (mo_ne hm 14 16 rfl rfl (by decide))).trans h1.2.2.1), ((jh_u_a _ _ _ _ (mo_ne hm 12 16 rfl rfl (by decide))).trans h1.2.2.2.1), ((jh_u_a _ _ _ _ (mo_ne hm 15 16 rfl rfl (by decide))).trans h1.2.2.2.2.1), ?_, ((jh_u_a _ _ _ _ (mo_ne hm 17 16 rfl rfl (by decide))).trans h1.2.2.2.2.2.2)⟩
  by_cases z : i = i0
  · subst z; rw [va_up_self]; exact jh_u_s _ _ _ _
  · rw [va_up_ne _ _ z]; exact (jh_u_k _ _ _ _ (by omega)).trans h1.2.2.2.2.2.1
theorem mt_536 {h h0 : jh_H} {mo : Nat} {ar : Nat → Nat} (hm : mo_ok h0 mo ar) {a n i0 x : Nat} {T : pp_T} {ot la : pp_O} (hmt : mt_ok h ar a n T ot la) : mt_ok (jh_sI h (ar 536) (a + i0) (nI (a + x))) ar a n T ot (va_up la i0 (some x)) := by
  intro i hi
  have h1 := hmt i hi
  refine ⟨((jh_u_a _ _ _ _ (mo_ne hm 11 17 rfl rfl (by decide))).trans h1.1), ((jh_u_a _ _ _ _ (mo_ne hm 13 17 rfl rfl (by decide))).trans h1.2.1), ((jh_u_a _ _ _ _ (mo_ne hm 14 17 rfl rfl (by decide))).trans h1.2.2.1), ((jh_u_a _ _ _ _ (mo_ne hm 12 17 rfl rfl (by decide))).trans h1.2.2.2.1), ((jh_u_a _ _ _ _ (mo_ne hm 15 17 rfl rfl (by decide))).trans h1.2.2.2.2.1), ((jh_u_a _ _ _ _ (mo_ne hm 16 17 rfl rfl (by decide))).trans h1.2.2.2.2.2.1), ?_⟩
  by_cases z : i = i0
  · subst z; rw [va_up_self]; exact jh_u_s _ _ _ _
  · rw [va_up_ne _ _ z]; exact (jh_u_k _ _ _ _ (by omega)).trans h1.2.2.2.2.2.2
set_option maxHeartbeats 4000000 in
set_option maxRecDepth 100000 in
theorem cm_takeApart {g : jg_G} (hg : (jg_l g).stackTraces = false) {h : jh_H} {mo n0 : Nat} {ar ln t0 : Nat → Nat} {Q : jw_O → jh_H → Prop} (hm : mo_ok h mo ar) (hn0 : n0 ≤ 200) (hty : jh_i h mo 514 = nI n0) (hln : ∀ i, i < n0 → jh_I h (ar 519) i = nI (ln i) ∧ ln i < 128) (ht0 : mo_tx h ar t0)
    (hq : ∀ h' t, (∀ i, t i = if 800 ≤ i ∧ i < 800 + n0 then ln (i - 800) else t0 i) → mo_fr h h' ar ta_F → mo_tx h' ar t → match pp_all t 800 (800 + n0) with
      | .inl k => Q (.inl (some (.inl (nI (k - 800))))) h'
      | .inr (n, T, ot, la) => mt_ok h' ar 200 n T ot la → jh_I h' (ar 528) 4 = nI n → n ≤ 50 → Q (.inl (some (.inl (-1)))) h') :
    jw_C g 8 0 0 m_M_takeApart [.inr (.inr (some mo))] h Q := by
  refine jw_intro (ls := [some (.inr (.inr (some mo))), none, none, none, none, none]) (by decide) k_M_takeApart rfl (by simp [lo_fit, jv_c]) hg ?_
  obtain ⟨t, ht⟩ : ∃ t : Nat → Nat, ∀ i, t i = if 800 ≤ i ∧ i < 800 + n0 then ln (i - 800) else t0 i := ⟨fun i => if 800 ≤ i ∧ i < 800 + n0 then ln (i - 800) else t0 i, fun _ => rfl⟩
  have main : ∀ f p n T d os ot la h1, 800 + n0 < p + f → mo_fr h h1 ar ta_F → mo_tx h1 ar t → mt_ok h1 ar 200 n T ot la → d ≤ 4 → (∀ j, j < d → os j < n ∧ jh_I h1 (ar 537) j = nI (200 + os j)) → 800 + 4 * n ≤ p → p ≤ 800 + n0 → (∀ i, i < n → (T i).2.2.2.2 ≤ 10 ∧ 800 ≤ (T i).1 ∧ (T i).1 ≤ 1000 ∧ ∀ x, ot i = some x → x < n) →
      (∀ h' , mo_fr h h' ar ta_F → mo_tx h' ar t → match pp t (800 + n0) f p n T d os ot la with
        | .inl k => Q (.inl (some (.inl (nI (k - 800))))) h'
        | .inr (n, T, ot, la) => mt_ok h' ar 200 n T ot la → jh_I h' (ar 528) 4 = nI n → n ≤ 50 → Q (.inl (some (.inl (-1)))) h') →
      jw_J g 8 m_M_takeApart jw_T0 56 [some (.inr (.inr (some mo))), some (.inl (nI p)), some (.inl (nI (800 + n0))), some (.inl (nI d)), some (.inl (nI (200 + n))), none] [] h1 0 0 Q := by
    intro f
    induction f with
    | zero => intro p n T d os ot la h1 hf _ _ _ _ _ _ hp; omega
    | succ f ih =>
      intro p n T d os ot la h1 hf hfr htx hmt hd hos hpn hp hT hq
      have hm1 : mo_ok h1 mo ar := mo_fr.ok hfr hm
      rw [pp] at hq
      refine jw_aload_n rfl rfl ?_
      refine jw_iload_n rfl rfl ?_
      refine jw_iload_n rfl rfl ?_
      refine jw_iload rfl rfl ?_
      refine js_call (As := [.inl (nI p), .inl (nI (800 + n0)), .inl (nI (200 + n))]) rfl l_M_takeTag c_M_268 i_M_takeTag s_M_takeTag jc_o8 rfl hm1.1 rfl (cm_takeTag hg hm1 htx hp (by omega) (fun hk => ?_) (fun hk => ?_) (fun hk hqe => ?_) (fun hk hqe => ?_)) (by decide) (Nat.le_of_ble_eq_true rfl) (by omega) (by omega) rfl
      · have := (sp_fd_le t (800 + n0) [123, 123] (800 + n0 - p) p hp).2
        have : p ≤ sp_k t p (800 + n0) := this
        omega
      · rw [if_pos hk] at hq
        refine js_istore rfl rfl (by decide) rfl ?_
        refine jw_iload rfl rfl ?_
        refine jw_if_ge 83 rfl rfl (fun _ => ?_) (fun c => absurd (by decide) c)
        refine jw_iload rfl rfl ?_
        refine jw_if_ne 91 rfl rfl (fun c => absurd rfl c) (fun _ => ?_)
        refine jw_goto 129 rfl rfl ?_
        refine jw_aload_n rfl rfl ?_
        refine jw_gr rfl g_M_62 hm1.1 (mo_r hm1 9 rfl) ?_
        refine js_iconst (x := 4) rfl rfl ?_
        refine jw_iload rfl rfl ?_
        refine js_sipush (x := 200) rfl rfl ?_
        refine jw_isub rfl ?_
        rw [show nI (200 + n) - 200 = nI n from by rw [show (200 : Int32) = nI 200 from rfl, pk_sub (by omega)]; congr 1; omega]
        refine js_iast (4) rfl (mo_a hm1 9 rfl) (by decide) (by rfl)  rfl (by decide) (by decide) ?_
        refine jw_iload_n rfl rfl ?_
        have hfr2 : mo_fr h (jh_sI h1 (ar 528) 4 (nI n)) ar ta_F := mo_fr.sI hfr (Or.inr (Or.inr (Or.inr ⟨rfl, rfl⟩)))
        have htx2 : mo_tx (jh_sI h1 (ar 528) 4 (nI n)) ar t := mo_tx_s hm htx 9 rfl (by decide) 4 _
        have q2 := hq _ hfr2 htx2
        refine jw_if_le 165 rfl rfl (fun c => ?_) (fun c => ?_)
        · have h0 : ¬ 0 < d := fun z => absurd ((nI_leI (b := 0) (by omega) (by omega)).mp c) (by omega)
          rw [if_neg h0] at q2
          refine js_iconst (x := (-1)) rfl rfl ?_
          refine jw_ireturn rfl rfl rfl ?_
          refine q2 ?_ (jh_u_s _ _ _ _) (by omega)
          intro i hi
          have m1 := hmt i hi
          exact ⟨((jh_u_a _ _ _ _ (mo_ne hm 11 9 rfl rfl (by decide))).trans m1.1), ((jh_u_a _ _ _ _ (mo_ne hm 13 9 rfl rfl (by decide))).trans m1.2.1), ((jh_u_a _ _ _ _ (mo_ne hm 14 9 rfl rfl (by decide))).trans m1.2.2.1), ((jh_u_a _ _ _ _ (mo_ne hm 12 9 rfl rfl (by decide))).trans m1.2.2.2.1), ((jh_u_a _ _ _ _ (mo_ne hm 15 9 rfl rfl (by decide))).trans m1.2.2.2.2.1), ((jh_u_a _ _ _ _ (mo_ne hm 16 9 rfl rfl (by decide))).trans m1.2.2.2.2.2.1), ((jh_u_a _ _ _ _ (mo_ne hm 17 9 rfl rfl (by decide))).trans m1.2.2.2.2.2.2)⟩
        · have h0 : 0 < d := Nat.pos_of_ne_zero (fun z => c (by rw [z]; decide))
          rw [if_pos h0] at q2
          have ho := hos (d - 1) (by omega)
          have hb := hmt (os (d - 1)) ho.1
          have hT2 := hT (os (d - 1)) ho.1
          refine jw_aload_n rfl rfl ?_
          refine jw_gr rfl g_M_68 (mo_sI hm1).1 (mo_r (mo_sI hm1) 11 rfl) ?_
          refine jw_aload_n rfl rfl ?_
          refine jw_gr rfl g_M_89 (mo_sI hm1).1 (mo_r (mo_sI hm1) 18 rfl) ?_
          refine jw_iload_n rfl rfl ?_
          refine js_iconst (x := 1) rfl rfl ?_
          refine jw_isub rfl ?_
          rw [show nI d - 1 = nI (d - 1) from pk_sub (b := 1) h0]
          refine js_iald (d - 1) rfl (mo_a (mo_sI hm1) 18 rfl) (by decide) (by rfl)  rfl (by omega) (by decide) ?_
          rw [show jh_I (jh_sI h1 (ar 528) 4 (nI n)) (ar 537) (d - 1) = nI (200 + os (d - 1)) from (jh_u_a _ _ _ _ (mo_ne hm 18 9 rfl rfl (by decide))).trans ho.2]
          refine js_iald (200 + os (d - 1)) rfl (mo_a (mo_sI hm1) 11 rfl) (by decide) (by rfl)  rfl (by omega) (by decide) ?_
          rw [show jh_I (jh_sI h1 (ar 528) 4 (nI n)) (ar 530) (200 + os (d - 1)) = nI (T (os (d - 1))).1 from (jh_u_a _ _ _ _ (mo_ne hm 11 9 rfl rfl (by decide))).trans hb.1]
          refine js_sipush (x := 800) rfl rfl ?_
          refine jw_isub rfl ?_
          rw [show nI (T (os (d - 1))).1 - 800 = nI ((T (os (d - 1))).1 - 800) from pk_sub (b := 800) hT2.2.1]
          refine jw_goto 166 rfl rfl ?_
          refine jw_ireturn rfl rfl rfl ?_
          exact q2
      · rw [if_neg (by omega), if_pos hqe] at hq
        have hj : n < 50 := by
          have := (sp_fd_le t (800 + n0) [123, 123] (800 + n0 - p) p hp).2
          have : p ≤ sp_k t p (800 + n0) := this
          omega
        have hk8 : 800 ≤ sp_k t p (800 + n0) := by
          have := (sp_fd_le t (800 + n0) [123, 123] (800 + n0 - p) p hp).2
          have : p ≤ sp_k t p (800 + n0) := this
          omega
        refine js_istore rfl rfl (by decide) rfl ?_
        refine jw_iload rfl rfl ?_
        refine jw_if_ge 83 rfl rfl (fun c => absurd c (by decide)) (fun _ => ?_)
        refine jw_aload_n rfl rfl ?_
        refine jw_gr rfl g_M_68 (mo_sI hm1).1 (mo_r (mo_sI hm1) 11 rfl) ?_
        refine jw_iload rfl rfl ?_
        refine js_iald (200 + n) rfl (mo_a (mo_sI hm1) 11 rfl) (by decide) (by rfl)  rfl (by omega) (by decide) ?_
        rw [show jh_I (jh_sI h1 (ar 530) (200 + n) (nI (sp_k t p (800 + n0)))) (ar 530) (200 + n) = nI (sp_k t p (800 + n0)) from jh_u_s _ _ _ _]
        refine js_sipush (x := 800) rfl rfl ?_
        refine jw_isub rfl ?_
        rw [show nI (sp_k t p (800 + n0)) - 800 = nI (sp_k t p (800 + n0) - 800) from pk_sub (b := 800) hk8]
        refine jw_ireturn rfl rfl rfl ?_
        exact hq _ (mo_fr.sI hfr (Or.inr (Or.inl ⟨by decide, by decide, by omega⟩))) (mo_tx_s hm htx 11 rfl (by decide) _ _)
      · rw [if_neg (by omega), if_neg (by omega)] at hq
        have hpk : p ≤ sp_k t p (800 + n0) := (sp_fd_le t (800 + n0) [123, 123] (800 + n0 - p) p hp).2
        have hj : n < 50 := by omega
        have hk8 : 800 ≤ sp_k t p (800 + n0) := by omega
        have hff := sp_f_le t hp hk
        have hfq : sp_f t p (800 + n0) ≤ sp_q t p (800 + n0) := (sp_fd_le t (800 + n0) _ _ _ hff).2
        have hkf : sp_k t p (800 + n0) + 2 ≤ sp_f t p (800 + n0) := by
          rw [sp_f]; cases sp_th t p (800 + n0) <;> simp [sp_n]
        have hqn : sp_q t p (800 + n0) + sp_n (sp_th t p (800 + n0)) ≤ 800 + n0 := by
          have h1 := sp_fd_at t (800 + n0) (sp_cl (sp_th t p (800 + n0))) (800 + n0 - sp_f t p (800 + n0)) (sp_f t p (800 + n0)) hff (by omega) hqe
          have h2 := sp_st_len t (by cases sp_th t p (800 + n0) <;> simp [sp_cl]) (by cases sp_th t p (800 + n0) <;> simp [sp_cl]) (show sp_q t p (800 + n0) ≤ 800 + n0 by omega) h1
          have h3 : (sp_cl (sp_th t p (800 + n0))).length = sp_n (sp_th t p (800 + n0)) := by cases sp_th t p (800 + n0) <;> rfl
          have h4 : sp_q t p (800 + n0) + (sp_cl (sp_th t p (800 + n0))).length ≤ 800 + n0 := h2
          omega
        have hn2 : 2 ≤ sp_n (sp_th t p (800 + n0)) := by cases sp_th t p (800 + n0) <;> decide
        refine js_istore rfl rfl (by decide) rfl ?_
        refine jw_iload rfl rfl ?_
        cases hs : sp_sort t (sp_f t p (800 + n0)) (sp_q t p (800 + n0)) (sp_th t p (800 + n0)) with
        | none =>
          simp only [hs] at hq
          refine jw_if_ge 83 rfl rfl (fun c => absurd c (by decide)) (fun _ => ?_)
          have hm2 : mo_ok (tg_set h1 ar (200 + n) (sp_k t p (800 + n0)) (sp_f t p (800 + n0)) (sp_q t p (800 + n0)) (sp_n (sp_th t p (800 + n0))) none) mo ar := hm1
          refine jw_aload_n rfl rfl ?_
          refine jw_gr rfl g_M_68 hm2.1 (mo_r hm2 11 rfl) ?_
          refine jw_iload rfl rfl ?_
          refine js_iald (200 + n) rfl (mo_a hm2 11 rfl) (by decide) (by rfl)  rfl (by omega) (by decide) ?_
          rw [tg_530 hm, if_pos rfl]
          refine js_sipush (x := 800) rfl rfl ?_
          refine jw_isub rfl ?_
          rw [show nI (sp_k t p (800 + n0)) - 800 = nI (sp_k t p (800 + n0) - 800) from pk_sub (b := 800) hk8]
          refine jw_ireturn rfl rfl rfl ?_
          exact hq _ (tg_fr hfr (by omega)) (tg_tx hm htx)
        | some s =>
          simp only [hs] at hq
          have hs10 := sp_sort_le hs
          refine jw_if_ge 83 rfl rfl (fun _ => ?_) (fun c => absurd (show (0 : Int32) ≤ 1 by decide) c)
          refine jw_iload rfl rfl ?_
          refine jw_if_ne 91 rfl rfl (fun _ => ?_) (fun c => absurd c (show ¬ (1 : Int32) = 0 by decide))
          generalize hh2 : tg_set h1 ar (200 + n) (sp_k t p (800 + n0)) (sp_f t p (800 + n0)) (sp_q t p (800 + n0)) (sp_n (sp_th t p (800 + n0))) (some s) = h2
          have hfr2 : mo_fr h h2 ar ta_F := by rw [← hh2]; exact tg_fr hfr (by omega)
          have htx2 : mo_tx h2 ar t := by rw [← hh2]; exact tg_tx hm htx
          have hmt2 : mt_ok h2 ar 200 (n + 1) (va_up T n (pp_new t p (800 + n0) s)) (va_up ot n none) (va_up la n none) := by rw [← hh2]; exact tg_mt hm hmt
          have hos2 : ∀ j, j < d → os j < n ∧ jh_I h2 (ar 537) j = nI (200 + os j) := fun j hj => by rw [← hh2, tg_537 hm]; exact hos j hj
          have hm2 : mo_ok h2 mo ar := mo_fr.ok hfr2 hm
          have hsn : jh_I h2 (ar 534) (200 + n) = nI s := by
            have := (hmt2 n (by omega)).2.2.2.2.1
            rwa [va_up_self] at this
          have hT2 : ∀ i, i < n + 1 → (va_up T n (pp_new t p (800 + n0) s) i).2.2.2.2 ≤ 10 ∧ 800 ≤ (va_up T n (pp_new t p (800 + n0) s) i).1 ∧ (va_up T n (pp_new t p (800 + n0) s) i).1 ≤ 1000 ∧ ∀ x, va_up ot n none i = some x → x < n + 1 := by
            intro i hi
            by_cases z : i = n
            · subst z; rw [va_up_self, va_up_self]; exact ⟨hs10, hk8, by show sp_k t p (800 + n0) ≤ 1000; omega, fun x hx => by cases hx⟩
            · rw [va_up_ne _ _ z, va_up_ne _ _ z]
              have := hT i (by omega)
              exact ⟨this.1, this.2.1, this.2.2.1, fun x hx => by have := this.2.2.2 x hx; omega⟩
          generalize hTn : va_up T n (pp_new t p (800 + n0) s) = T2 at hmt2 hT2 hq
          have hTe : (T2 n).2.2.2.1 = sp_q t p (800 + n0) + sp_n (sp_th t p (800 + n0)) ∧ (T2 n).1 = sp_k t p (800 + n0) := by rw [← hTn, va_up_self]; exact ⟨rfl, rfl⟩
          generalize va_up ot n none = ot2 at hmt2 hT2 hq
          generalize va_up la n none = la2 at hmt2 hq
          -- the end of a turn: the next tag
          have next : ∀ (d' : Nat) (os' : Nat → Nat) (ot' la' : pp_O) (h3 : jh_H), pp_fit n s (fun x => (T2 x).2.2.2.2) d os ot2 la2 = some (d', os', ot', la') → mo_fr h h3 ar ta_F → mo_tx h3 ar t → mt_ok h3 ar 200 (n + 1) T2 ot' la' → d' ≤ 4 → (∀ j, j < d' → os' j < n + 1 ∧ jh_I h3 (ar 537) j = nI (200 + os' j)) → (∀ i, i < n + 1 → ∀ x, ot' i = some x → x < n + 1) → jw_J g 8 m_M_takeApart jw_T0 98 [some (.inr (.inr (some mo))), some (.inl (nI p)), some (.inl (nI (800 + n0))), some (.inl (nI d)), some (.inl (nI (200 + n))), some (.inl 1)] [.inl (nI d')] h3 0 0 Q := by
            intro d' os' ot' la' h3 hfit hfr3 htx3 hmt3 hd3 hos3 hot3
            have hm3 : mo_ok h3 mo ar := mo_fr.ok hfr3 hm
            rw [hfit] at hq
            simp only at hq
            refine js_istore_n rfl rfl (by decide) rfl ?_
            refine jw_iload_n rfl rfl ?_
            refine jw_if_ge 115 rfl rfl (fun _ => ?_) (fun c => absurd (nI_pos' (by omega)) c)
            refine jw_aload_n rfl rfl ?_
            refine jw_gr rfl g_M_71 hm3.1 (mo_r hm3 12 rfl) ?_
            refine jw_iload rfl rfl ?_
            refine js_iald (200 + n) rfl (mo_a hm3 12 rfl) (by decide) (by rfl)  rfl (by omega) (by decide) ?_
            rw [(hmt3 n (by omega)).2.2.2.1, hTe.1]
            refine js_istore_n rfl rfl (by decide) rfl ?_
            refine js_iinc rfl rfl (nI_1 (200 + n)) rfl (by decide) rfl ?_
            refine jw_goto 56 rfl rfl ?_
            rw [show 200 + n + 1 = 200 + (n + 1) by omega]
            refine js_drop 5 rfl (ih _ (n + 1) T2 d' os' ot' la' h3 (by omega) hfr3 htx3 hmt3 hd3 hos3 (by omega) hqn (fun i hi => ⟨(hT2 i hi).1, (hT2 i hi).2.1, (hT2 i hi).2.2.1, hot3 i hi⟩) hq)
          have fault : ∀ h3 : jh_H, pp_fit n s (fun x => (T2 x).2.2.2.2) d os ot2 la2 = none → mo_fr h h3 ar ta_F → mo_tx h3 ar t → jh_I h3 (ar 530) (200 + n) = nI (sp_k t p (800 + n0)) → jw_J g 8 m_M_takeApart jw_T0 98 [some (.inr (.inr (some mo))), some (.inl (nI p)), some (.inl (nI (800 + n0))), some (.inl (nI d)), some (.inl (nI (200 + n))), some (.inl 1)] [.inl (-1)] h3 0 0 Q := by
            intro h3 hfit hfr3 htx3 hbeg
            have hm3 : mo_ok h3 mo ar := mo_fr.ok hfr3 hm
            rw [hfit] at hq
            refine js_istore_n rfl rfl (by decide) rfl ?_
            refine jw_iload_n rfl rfl ?_
            refine jw_if_ge 115 rfl rfl (fun c => absurd c (by decide)) (fun _ => ?_)
            refine jw_aload_n rfl rfl ?_
            refine jw_gr rfl g_M_68 hm3.1 (mo_r hm3 11 rfl) ?_
            refine jw_iload rfl rfl ?_
            refine js_iald (200 + n) rfl (mo_a hm3 11 rfl) (by decide) (by rfl)  rfl (by omega) (by decide) ?_
            rw [hbeg]
            refine js_sipush (x := 800) rfl rfl ?_
            refine jw_isub rfl ?_
            rw [show nI (sp_k t p (800 + n0)) - 800 = nI (sp_k t p (800 + n0) - 800) from pk_sub (b := 800) hk8]
            refine jw_ireturn rfl rfl rfl ?_
            exact hq _ hfr3 htx3
          have hbeg2 : jh_I h2 (ar 530) (200 + n) = nI (sp_k t p (800 + n0)) := by rw [(hmt2 n (by omega)).1, hTe.2]
          have hb0 : 0 < d → jh_I h2 (ar 537) (d - 1) = nI (200 + os (d - 1)) ∧ 200 + os (d - 1) < 250 ∧ jh_I h2 (ar 534) (200 + os (d - 1)) = nI (T2 (os (d - 1))).2.2.2.2 ∧ (T2 (os (d - 1))).2.2.2.2 ≤ 10 := by
            intro h0
            have h1 := hos2 (d - 1) (by omega)
            exact ⟨h1.2, by omega, (hmt2 (os (d - 1)) (by omega)).2.2.2.2.1, (hT2 (os (d - 1)) (by omega)).1⟩
          have hw : ∀ {k j : Nat} {v : Int32} {hx : jh_H}, mo_fr h hx ar ta_F → (k = 535 ∨ k = 536) → 200 ≤ j → mo_fr h (jh_sI hx (ar k) j v) ar ta_F := fun hx hk hj => mo_fr.sI hx (Or.inr (Or.inl ⟨by rcases hk with rfl | rfl <;> decide, by rcases hk with rfl | rfl <;> decide, hj⟩))
          refine jw_aload_n rfl rfl ?_
          refine jw_iload rfl rfl ?_
          refine jw_iload_n rfl rfl ?_
          refine js_call (As := [.inl (nI (200 + n)), .inl (nI d)]) rfl l_M_fit c_M_272 i_M_fit s_M_fit jc_o8 rfl hm2.1 rfl (cm_fit hg hm2 (b := 200 + os (d - 1)) (sb := (T2 (os (d - 1))).2.2.2.2) (by omega) hd hsn hs10 hb0 (fun a1 a2 a3 => ?_) (fun a1 a2 a3 => ?_) (fun a1 => ?_) (fun a1 a2 a3 => ?_) (fun a1 a2 a3 => ?_) (fun a1 a2 a3 => ?_) (fun a1 a2 a3 a4 => ?_) (fun a1 a2 a3 a4 => ?_)) (by decide) (Nat.le_of_ble_eq_true rfl) (by omega) (by omega) rfl
          · exact fault h2 (by rw [pp_fit, if_pos ⟨a1, a2⟩, if_pos a3]) hfr2 htx2 hbeg2
          · refine next (d + 1) (va_up os d n) ot2 la2 _ (by rw [pp_fit, if_pos ⟨a1, a2⟩, if_neg (by omega)]) (mo_fr.sI hfr2 (Or.inr (Or.inr (Or.inl rfl)))) (mo_tx_s hm htx2 18 rfl (by decide) _ _) (mt_537 hm hmt2) (by omega) (fun j hj => ?_) (fun i hi => (hT2 i hi).2.2.2)
            by_cases z : j = d
            · subst z; rw [va_up_self]; exact ⟨by omega, jh_u_s _ _ _ _⟩
            · rw [va_up_ne _ _ z]
              have := hos2 j (by omega)
              exact ⟨by omega, (jh_u_k _ _ _ _ z).trans this.2⟩
          · refine next d os ot2 la2 h2 (by rw [pp_fit, if_neg (by omega), if_pos a1]) hfr2 htx2 hmt2 hd (fun j hj => ?_) (fun i hi => (hT2 i hi).2.2.2)
            have := hos2 j hj
            exact ⟨by omega, this.2⟩
          · exact fault h2 (by rw [pp_fit, if_neg (by omega), if_neg (by omega), if_pos a3]) hfr2 htx2 hbeg2
          · have ob := hos2 (d - 1) (by omega)
            have hsm : (ot2 (os (d - 1))).isSome = true := by
              rw [(hmt2 (os (d - 1)) (by omega)).2.2.2.2.2.1] at a3
              exact (mt_o_neg 200 (fun x hx => by have := (hT2 (os (d - 1)) (by omega)).2.2.2 x hx; omega)).mp a3
            refine fault _ (by rw [pp_fit, if_neg (by omega), if_neg (by omega), if_neg (by omega), if_pos a1, if_pos hsm]) (hw hfr2 (Or.inr rfl) (by omega)) (mo_tx_s hm htx2 17 rfl (by decide) _ _) ((jh_u_a _ _ _ _ (mo_ne hm 11 17 rfl rfl (by decide))).trans hbeg2)
          · have ob := hos2 (d - 1) (by omega)
            have hsm : ¬ (ot2 (os (d - 1))).isSome = true := by
              rw [(hmt2 (os (d - 1)) (by omega)).2.2.2.2.2.1] at a3
              exact fun z => a3 ((mt_o_neg 200 (fun x hx => by have := (hT2 (os (d - 1)) (by omega)).2.2.2 x hx; omega)).mpr z)
            refine next d os (va_up ot2 (os (d - 1)) (some n)) (va_up la2 n (some (os (d - 1)))) _ (by rw [pp_fit, if_neg (by omega), if_neg (by omega), if_neg (by omega), if_pos a1, if_neg hsm]) (hw (hw hfr2 (Or.inr rfl) (by omega)) (Or.inl rfl) (by omega)) (mo_tx_s hm (mo_tx_s hm htx2 17 rfl (by decide) _ _) 16 rfl (by decide) _ _) (mt_535 hm (mt_536 hm hmt2)) hd (fun j hj => ?_) (fun i hi x hx => ?_)
            · have := hos2 j hj
              exact ⟨by omega, (jh_u_a _ _ _ _ (mo_ne hm 18 16 rfl rfl (by decide))).trans ((jh_u_a _ _ _ _ (mo_ne hm 18 17 rfl rfl (by decide))).trans this.2)⟩
            · by_cases z : i = os (d - 1)
              · rw [z, va_up_self] at hx; cases hx; omega
              · rw [va_up_ne _ _ z] at hx; exact (hT2 i hi).2.2.2 x hx
          · refine fault _ (by rw [pp_fit, if_neg (by omega), if_neg (by omega), if_neg (by omega), if_neg (by omega), if_pos a4]) (hw hfr2 (Or.inr rfl) (by omega)) (mo_tx_s hm htx2 17 rfl (by decide) _ _) ((jh_u_a _ _ _ _ (mo_ne hm 11 17 rfl rfl (by decide))).trans hbeg2)
          · refine next (d - 1) os ot2 (va_up (va_up la2 n (some (os (d - 1)))) (os (d - 1)) (some n)) _ (by rw [pp_fit, if_neg (by omega), if_neg (by omega), if_neg (by omega), if_neg (by omega), if_neg (fun z => z a4)]) (hw (hw hfr2 (Or.inr rfl) (by omega)) (Or.inr rfl) (by omega)) (mo_tx_s hm (mo_tx_s hm htx2 17 rfl (by decide) _ _) 17 rfl (by decide) _ _) (mt_536 hm (mt_536 hm hmt2)) (by omega) (fun j hj => ?_) (fun i hi => (hT2 i hi).2.2.2)
            have := hos2 j (by omega)
            exact ⟨by omega, (jh_u_a _ _ _ _ (mo_ne hm 18 17 rfl rfl (by decide))).trans ((jh_u_a _ _ _ _ (mo_ne hm 18 17 rfl rfl (by decide))).trans this.2)⟩
  have copy : ∀ m i h1 t1, i + m = n0 → mo_fr h h1 ar ta_F → mo_tx h1 ar t1 → (∀ x, t1 x = if 800 ≤ x ∧ x < 800 + i then ln (x - 800) else t0 x) → jw_J g 8 m_M_takeApart jw_T0 23 [some (.inr (.inr (some mo))), some (.inl (nI 800)), some (.inl (nI (800 + n0))), some (.inl (nI 0)), some (.inl (nI (200 + 0))), some (.inl (nI i))] [] h1 0 0 Q := by
    intro m
    induction m with
    | zero =>
      intro i h1 t1 hi hfr htx ht1
      have hm1 : mo_ok h1 mo ar := mo_fr.ok hfr hm
      have e1 : jh_i h1 mo 514 = nI n0 := by rw [hfr.2.2.1]; exact hty
      have et : t1 = t := by funext x; rw [ht1 x, ht x, show i = n0 by omega]
      refine jw_iload rfl rfl ?_
      refine jw_aload_n rfl rfl ?_
      refine jw_gi rfl g_M_16 hm1.1 e1 ?_
      refine jw_icmp_ge 56 rfl rfl (fun _ => ?_) (fun c => absurd ((nI_leI (by omega) (by omega)).mpr (by omega)) c)
      refine js_drop 5 rfl (main (800 + n0 - 800 + 1) 800 0 (fun _ => (0, 0, 0, 0, 0)) 0 (fun _ => 0) (fun _ => none) (fun _ => none) h1 (by omega) hfr (by rw [← et]; exact htx) (fun i hi => absurd hi (by omega)) (by omega) (fun j hj => absurd hj (by omega)) (by omega) (by omega) (fun i hi => absurd hi (by omega)) (fun h' a1 a2 => hq h' t ht a1 a2))
    | succ m ih =>
      intro i h1 t1 hi hfr htx ht1
      have hm1 : mo_ok h1 mo ar := mo_fr.ok hfr hm
      have e1 : jh_i h1 mo 514 = nI n0 := by rw [hfr.2.2.1]; exact hty
      have hli : jh_I h1 (ar 519) i = nI (ln i) := by
        rw [hfr.2.2.2.2.2.2.2 (ar 519) i ?_]
        · exact (hln i (by omega)).1
        · intro k hk z
          rcases hk with hk | hk | hk | hk
          · exact mo_ne hm 0 7 rfl rfl (by decide) (by rw [z, hk.1])
          · have h3 : k = 530 ∨ k = 531 ∨ k = 532 ∨ k = 533 ∨ k = 534 ∨ k = 535 ∨ k = 536 := by omega
            rcases h3 with rfl | rfl | rfl | rfl | rfl | rfl | rfl
            · exact mo_ne hm 0 11 rfl rfl (by decide) z
            · exact mo_ne hm 0 12 rfl rfl (by decide) z
            · exact mo_ne hm 0 13 rfl rfl (by decide) z
            · exact mo_ne hm 0 14 rfl rfl (by decide) z
            · exact mo_ne hm 0 15 rfl rfl (by decide) z
            · exact mo_ne hm 0 16 rfl rfl (by decide) z
            · exact mo_ne hm 0 17 rfl rfl (by decide) z
          · exact mo_ne hm 0 18 rfl rfl (by decide) (by rw [z, hk])
          · exact mo_ne hm 0 9 rfl rfl (by decide) (by rw [z, hk.1])
      refine jw_iload rfl rfl ?_
      refine jw_aload_n rfl rfl ?_
      refine jw_gi rfl g_M_16 hm1.1 e1 ?_
      refine jw_icmp_ge 56 rfl rfl (fun c => absurd ((nI_leI (by omega) (by omega)).mp c) (by omega)) (fun _ => ?_)
      refine jw_aload_n rfl rfl ?_
      refine jw_gr rfl g_M_56 hm1.1 (mo_r hm1 7 rfl) ?_
      refine js_sipush (x := 800) rfl rfl ?_
      refine jw_iload rfl rfl ?_
      refine jw_iadd rfl ?_
      rw [show (800 : Int32) + nI i = nI (800 + i) from nI_add 800 i]
      refine jw_aload_n rfl rfl ?_
      refine jw_gr rfl g_M_31 hm1.1 (mo_r hm1 0 rfl) ?_
      refine jw_iload rfl rfl ?_
      refine js_cald (i) rfl (mo_a hm1 0 rfl) (by decide) (by rfl)  rfl (by omega) (by decide) ?_
      rw [hli]
      refine js_cast (800 + i) rfl (mo_a hm1 7 rfl) (by decide) (by rfl)  rfl (by omega) (by decide) ?_
      refine js_iinc rfl rfl (nI_1 i) rfl (by decide) rfl ?_
      refine jw_goto 23 rfl rfl ?_
      have hc := (hln i (by omega)).2
      have hnar : vp_nar .char (nI (ln i)) = nI (ln i) := by simp only [vp_nar, (pk_charN (q := ln i) (by omega)).1]
      rw [hnar]
      refine ih (i + 1) _ (va_up t1 (800 + i) (ln i)) (by omega) (mo_fr.sI hfr (Or.inl ⟨rfl, by omega⟩)) (fun x hx => ?_) (fun x => ?_)
      · by_cases z : x = 800 + i
        · subst z; rw [va_up_self]; exact ⟨jh_u_s _ _ _ _, hc⟩
        · rw [va_up_ne _ _ z]
          have := htx x hx
          exact ⟨(jh_u_k _ _ _ _ z).trans this.1, this.2⟩
      · by_cases z : x = 800 + i
        · subst z; rw [va_up_self, if_pos (by omega)]; congr 1; omega
        · rw [va_up_ne _ _ z, ht1 x]
          by_cases z2 : 800 ≤ x ∧ x < 800 + i
          · rw [if_pos z2, if_pos (by omega)]
          · rw [if_neg z2, if_neg (by omega)]
  refine js_sipush (x := 800) rfl rfl ?_
  refine js_istore_n rfl rfl (by decide) rfl ?_
  refine js_sipush (x := 800) rfl rfl ?_
  refine jw_aload_n rfl rfl ?_
  refine jw_gi rfl g_M_16 hm.1 hty ?_
  refine jw_iadd rfl ?_
  rw [show (800 : Int32) + nI n0 = nI (800 + n0) from nI_add 800 n0]
  refine js_istore_n rfl rfl (by decide) rfl ?_
  refine js_iconst (x := 0) rfl rfl ?_
  refine js_istore_n rfl rfl (by decide) rfl ?_
  refine js_sipush (x := 200) rfl rfl ?_
  refine js_istore rfl rfl (by decide) rfl ?_
  refine js_iconst (x := 0) rfl rfl ?_
  refine js_istore rfl rfl (by decide) rfl ?_
  exact copy n0 0 h t0 (by omega) mo_fr.rf ht0 (fun x => by rw [if_neg (by omega)])
end
section
/-! the model: calls that refuse, calls that make and read -/
def mo_rf (h : jh_H) (mo : Nat) (c : Int32) : jh_H := jh_si (jh_si h mo 512 c) mo 513 (jh_i h mo 513 + 1)
set_option maxHeartbeats 4000000 in
set_option maxRecDepth 100000 in
theorem cm_refuse {g : jg_G} (hg : (jg_l g).stackTraces = false) {h : jh_H} {mo : Nat} {c : Int32} {Q : jw_O → jh_H → Prop} (ho : jh_O h mo 8) (hq : Q (.inl (some (.inl 0))) (mo_rf h mo c)) : jw_C g 0 0 0 m_M_refuse [.inr (.inr (some mo)), .inl c] h Q := by
  refine jw_intro (ls := [some (.inr (.inr (some mo))), some (.inl c)]) (by decide) k_M_refuse rfl (by simp [lo_fit, jv_c]) hg ?_
  refine jw_aload_n rfl rfl ?_
  refine jw_iload_n rfl rfl ?_
  refine jw_pi rfl p_M_refuse_7 ho ?_
  refine jw_aload_n rfl rfl ?_
  refine jw_dup rfl rfl ?_
  refine jw_gi rfl g_M_13 ho (jh_u_k _ _ _ _ (by decide)) ?_
  refine js_iconst (x := 1) rfl rfl ?_
  refine jw_iadd rfl ?_
  refine jw_pi rfl p_M_refuse_13 ho ?_
  refine js_iconst (x := 0) rfl rfl ?_
  refine jw_ireturn rfl rfl rfl ?_
  exact hq
set_option maxHeartbeats 4000000 in
set_option maxRecDepth 100000 in
theorem cm_fine {g : jg_G} (hg : (jg_l g).stackTraces = false) {h : jh_H} {mo : Nat} {x : Int32} {Q : jw_O → jh_H → Prop} (ho : jh_O h mo 8) (hq : Q (.inl (some (.inl x))) (jh_si h mo 512 0)) : jw_C g 0 0 0 m_M_fine [.inr (.inr (some mo)), .inl x] h Q := by
  refine jw_intro (ls := [some (.inr (.inr (some mo))), some (.inl x)]) (by decide) k_M_fine rfl (by simp [lo_fit, jv_c]) hg ?_
  refine jw_aload_n rfl rfl ?_
  refine js_iconst (x := 0) rfl rfl ?_
  refine jw_pi rfl p_M_fine_7 ho ?_
  refine jw_iload_n rfl rfl ?_
  refine jw_ireturn rfl rfl rfl ?_
  exact hq
set_option maxHeartbeats 4000000 in
set_option maxRecDepth 100000 in
theorem cm_no {g : jg_G} (hg : (jg_l g).stackTraces = false) {h : jh_H} {mo : Nat} {x : Int32} {n : Nat} {Q : jw_O → jh_H → Prop} (ho : jh_O h mo 8) (hd : jh_i h mo 516 = nI n) (hn : n ≤ 60) (q1 : (x < 0 ∨ nI n ≤ x) → Q (.inl (some (.inl 1))) h) (q2 : ∀ i, i < n → x = nI i → Q (.inl (some (.inl 0))) h) : jw_C g 0 0 0 m_M_no [.inr (.inr (some mo)), .inl x] h Q := by
  refine jw_intro (ls := [some (.inr (.inr (some mo))), some (.inl x)]) (by decide) k_M_no rfl (by simp [lo_fit, jv_c]) hg ?_
  have at12 : (x < 0 ∨ nI n ≤ x) → jw_J g 0 m_M_no jw_T0 12 [some (.inr (.inr (some mo))), some (.inl x)] [] h 0 0 Q := by
    intro hx
    refine js_iconst (x := 1) rfl rfl ?_
    refine jw_goto 17 rfl rfl ?_
    refine jw_ireturn rfl rfl rfl ?_
    exact q1 hx
  refine jw_iload_n rfl rfl ?_
  refine jw_if_lt 12 rfl rfl (fun c => at12 (Or.inl c)) (fun c => ?_)
  refine jw_iload_n rfl rfl ?_
  refine jw_aload_n rfl rfl ?_
  refine jw_gi rfl g_M_22 ho hd ?_
  refine jw_icmp_lt 16 rfl rfl (fun c2 => ?_) (fun c2 => at12 (Or.inr (Int32.not_lt.mp c2)))
  refine js_iconst (x := 0) rfl rfl ?_
  refine jw_ireturn rfl rfl rfl ?_
  rcases pk_ix x (n := n) (by omega) with z | z | ⟨i, hi, rfl⟩
  · exact absurd z c
  · exact absurd c2 (Int32.not_lt.mpr z)
  · exact q2 i hi rfl
set_option maxHeartbeats 4000000 in
set_option maxRecDepth 100000 in
theorem cm_errorAt {g : jg_G} (hg : (jg_l g).stackTraces = false) {h : jh_H} {mo : Nat} {Q : jw_O → jh_H → Prop} (ho : jh_O h mo 8) (hq : Q (.inl (some (.inl (jh_i h mo 515)))) (jh_si h mo 512 0)) : jw_C g 1 0 0 m_M_errorAt [.inr (.inr (some mo))] h Q := by
  refine jw_intro (ls := [some (.inr (.inr (some mo)))]) (by decide) k_M_errorAt rfl (by simp [lo_fit, jv_c]) hg ?_
  refine jw_aload_n rfl rfl ?_
  refine jw_aload_n rfl rfl ?_
  refine jw_gi rfl g_M_19 ho rfl ?_
  refine js_call (As := [.inl _]) rfl l_M_fine c_M_162 i_M_fine s_M_fine jc_o8 rfl (ho) rfl (cm_fine hg ho ?_) (by decide) (Nat.le_of_ble_eq_true rfl) (by omega) (by omega) rfl
  refine jw_ireturn rfl rfl rfl ?_
  exact hq
set_option maxHeartbeats 4000000 in
set_option maxRecDepth 100000 in
theorem cm_nothing {g : jg_G} (hg : (jg_l g).stackTraces = false) {h : jh_H} {mo : Nat} {ar : Nat → Nat} {r : Nat} {Q : jw_O → jh_H → Prop} (hm : mo_ok h mo ar) (hr : r < 18) (hq : Q (.inl none) (jh_sI h (ar 538) r (-1))) : jw_C g 0 0 0 m_M_nothing [.inr (.inr (some mo)), .inl (nI r)] h Q := by
  refine jw_intro (ls := [some (.inr (.inr (some mo))), some (.inl (nI r))]) (by decide) k_M_nothing rfl (by simp [lo_fit, jv_c]) hg ?_
  refine jw_aload_n rfl rfl ?_
  refine jw_gr rfl g_M_92 hm.1 (mo_r hm 19 rfl) ?_
  refine jw_iload_n rfl rfl ?_
  refine js_iconst (x := (-1)) rfl rfl ?_
  refine js_iast (r) rfl (mo_a hm 19 rfl) (by decide) (by rfl)  rfl (by omega) (by decide) ?_
  refine jw_return rfl rfl ?_
  exact hq
set_option maxHeartbeats 4000000 in
set_option maxRecDepth 100000 in
theorem cm_setNumber {g : jg_G} (hg : (jg_l g).stackTraces = false) {h : jh_H} {mo : Nat} {ar : Nat → Nat} {r : Nat} {v : Int32} {Q : jw_O → jh_H → Prop} (hm : mo_ok h mo ar) (hr : r < 18) (hq : Q (.inl none) (jh_sI (jh_sI h (ar 538) r 0) (ar 539) r v)) : jw_C g 0 0 0 m_M_setNumber [.inr (.inr (some mo)), .inl (nI r), .inl v] h Q := by
  refine jw_intro (ls := [some (.inr (.inr (some mo))), some (.inl (nI r)), some (.inl v)]) (by decide) k_M_setNumber rfl (by simp [lo_fit, jv_c]) hg ?_
  refine jw_aload_n rfl rfl ?_
  refine jw_gr rfl g_M_92 hm.1 (mo_r hm 19 rfl) ?_
  refine jw_iload_n rfl rfl ?_
  refine js_iconst (x := 0) rfl rfl ?_
  refine js_iast (r) rfl (mo_a hm 19 rfl) (by decide) (by rfl)  rfl (by omega) (by decide) ?_
  refine jw_aload_n rfl rfl ?_
  refine jw_gr rfl g_M_95 (mo_sI hm).1 (mo_r (mo_sI hm) 20 rfl) ?_
  refine jw_iload_n rfl rfl ?_
  refine jw_iload_n rfl rfl ?_
  refine js_iast (r) rfl (mo_a (mo_sI hm) 20 rfl) (by decide) (by rfl)  rfl (by omega) (by decide) ?_
  refine jw_return rfl rfl ?_
  exact hq
def mo_mk (h : jh_H) (mo : Nat) (ar : Nat → Nat) (n : Nat) (k v : Int32) : jh_H := jh_si (jh_si (jh_sI (jh_sI h (ar 520) n k) (ar 521) n v) mo 516 (nI (n + 1))) mo 512 0
set_option maxHeartbeats 4000000 in
set_option maxRecDepth 100000 in
theorem cm_make {g : jg_G} (hg : (jg_l g).stackTraces = false) {h : jh_H} {mo : Nat} {ar : Nat → Nat} {n : Nat} {k v : Int32} {Q : jw_O → jh_H → Prop} (hm : mo_ok h mo ar) (hd : jh_i h mo 516 = nI n) (hn : n ≤ 60) (q1 : n = 60 → Q (.inl (some (.inl 0))) (mo_rf h mo 1)) (q2 : n < 60 → Q (.inl (some (.inl (nI n)))) (mo_mk h mo ar n k v)) : jw_C g 1 0 0 m_M_make [.inr (.inr (some mo)), .inl k, .inl v] h Q := by
  refine jw_intro (ls := [some (.inr (.inr (some mo))), some (.inl k), some (.inl v)]) (by decide) k_M_make rfl (by simp [lo_fit, jv_c]) hg ?_
  refine jw_aload_n rfl rfl ?_
  refine jw_gi rfl g_M_22 hm.1 hd ?_
  refine js_bipush (x := 60) rfl rfl ?_
  refine jw_icmp_ne 15 rfl rfl (fun c => ?_) (fun c => ?_)
  rotate_left
  · have h1 : n = 60 := (nI_eq (b := 60) (by omega) (by omega)).mp c
    refine jw_aload_n rfl rfl ?_
    refine js_iconst (x := 1) rfl rfl ?_
    refine js_call (As := [.inl 1]) rfl l_M_refuse c_M_158 i_M_refuse s_M_refuse jc_o8 rfl (hm.1) rfl (cm_refuse hg hm.1 ?_) (by decide) (Nat.le_of_ble_eq_true rfl) (by omega) (by omega) rfl
    refine jw_ireturn rfl rfl rfl ?_
    exact q1 h1
  have h1 : n < 60 := by
    have : ¬ n = 60 := fun z => c (by rw [z]; rfl)
    omega
  refine jw_aload_n rfl rfl ?_
  refine jw_gr rfl g_M_35 hm.1 (mo_r hm 1 rfl) ?_
  refine jw_aload_n rfl rfl ?_
  refine jw_gi rfl g_M_22 hm.1 hd ?_
  refine jw_iload_n rfl rfl ?_
  refine js_iast (n) rfl (mo_a hm 1 rfl) (by decide) (by rfl)  rfl (by omega) (by decide) ?_
  refine jw_aload_n rfl rfl ?_
  refine jw_gr rfl g_M_39 (mo_sI hm).1 (mo_r (mo_sI hm) 2 rfl) ?_
  refine jw_aload_n rfl rfl ?_
  refine jw_gi rfl g_M_22 (mo_sI hm).1 hd ?_
  refine jw_iload_n rfl rfl ?_
  refine js_iast (n) rfl (mo_a (mo_sI hm) 2 rfl) (by decide) (by rfl)  rfl (by omega) (by decide) ?_
  refine jw_aload_n rfl rfl ?_
  refine jw_dup rfl rfl ?_
  refine jw_gi rfl g_M_22 (mo_sI (mo_sI hm)).1 hd ?_
  refine js_iconst (x := 1) rfl rfl ?_
  refine jw_iadd rfl ?_
  rw [show nI n + 1 = nI (n + 1) from nI_1 n]
  refine jw_pi rfl p_M_make_22 (mo_sI (mo_sI hm)).1 ?_
  refine jw_aload_n rfl rfl ?_
  refine jw_aload_n rfl rfl ?_
  refine jw_gi rfl g_M_22 (mo_si (mo_sI (mo_sI hm))).1 (jh_u_s _ _ _ _) ?_
  refine js_iconst (x := 1) rfl rfl ?_
  refine jw_isub rfl ?_
  rw [show nI (n + 1) - 1 = nI n from nI_pred n]
  refine js_call (As := [.inl (nI n)]) rfl l_M_fine c_M_162 i_M_fine s_M_fine jc_o8 rfl ((mo_si (mo_sI (mo_sI hm))).1) rfl (cm_fine hg (mo_si (mo_sI (mo_sI hm))).1 ?_) (by decide) (Nat.le_of_ble_eq_true rfl) (by omega) (by omega) rfl
  refine jw_ireturn rfl rfl rfl ?_
  exact q2 h1
set_option maxHeartbeats 4000000 in
set_option maxRecDepth 100000 in
theorem cm_number {g : jg_G} (hg : (jg_l g).stackTraces = false) {h : jh_H} {mo : Nat} {ar : Nat → Nat} {n : Nat} {v : Int32} {Q : jw_O → jh_H → Prop} (hm : mo_ok h mo ar) (hd : jh_i h mo 516 = nI n) (hn : n ≤ 60) (q1 : n = 60 → Q (.inl (some (.inl 0))) (mo_rf h mo 1)) (q2 : n < 60 → Q (.inl (some (.inl (nI n)))) (mo_mk h mo ar n 0 v)) : jw_C g 2 0 0 m_M_number [.inr (.inr (some mo)), .inl v] h Q := by
  refine jw_intro (ls := [some (.inr (.inr (some mo))), some (.inl v)]) (by decide) k_M_number rfl (by simp [lo_fit, jv_c]) hg ?_
  refine jw_aload_n rfl rfl ?_
  refine js_iconst (x := 0) rfl rfl ?_
  refine jw_iload_n rfl rfl ?_
  refine js_call (As := [.inl 0, .inl v]) rfl l_M_make c_M_165 i_M_make s_M_make jc_o8 rfl hm.1 rfl (cm_make hg hm hd hn (fun z => ?_) (fun z => ?_)) (by decide) (Nat.le_of_ble_eq_true rfl) (by omega) (by omega) rfl
  · refine jw_ireturn rfl rfl rfl ?_
    exact q1 z
  · refine jw_ireturn rfl rfl rfl ?_
    exact q2 z
set_option maxHeartbeats 4000000 in
set_option maxRecDepth 100000 in
theorem cm_list {g : jg_G} (hg : (jg_l g).stackTraces = false) {h : jh_H} {mo : Nat} {ar : Nat → Nat} {n : Nat} {Q : jw_O → jh_H → Prop} (hm : mo_ok h mo ar) (hd : jh_i h mo 516 = nI n) (hn : n ≤ 60) (q1 : n = 60 → Q (.inl (some (.inl 0))) (mo_rf h mo 1)) (q2 : n < 60 → Q (.inl (some (.inl (nI n)))) (mo_mk h mo ar n 2 0)) : jw_C g 2 0 0 m_M_list [.inr (.inr (some mo))] h Q := by
  refine jw_intro (ls := [some (.inr (.inr (some mo)))]) (by decide) k_M_list rfl (by simp [lo_fit, jv_c]) hg ?_
  refine jw_aload_n rfl rfl ?_
  refine js_iconst (x := 2) rfl rfl ?_
  refine js_iconst (x := 0) rfl rfl ?_
  refine js_call (As := [.inl 2, .inl 0]) rfl l_M_make c_M_165 i_M_make s_M_make jc_o8 rfl hm.1 rfl (cm_make hg hm hd hn (fun z => ?_) (fun z => ?_)) (by decide) (Nat.le_of_ble_eq_true rfl) (by omega) (by omega) rfl
  · refine jw_ireturn rfl rfl rfl ?_
    exact q1 z
  · refine jw_ireturn rfl rfl rfl ?_
    exact q2 z
set_option maxHeartbeats 4000000 in
set_option maxRecDepth 100000 in
theorem cm_map {g : jg_G} (hg : (jg_l g).stackTraces = false) {h : jh_H} {mo : Nat} {ar : Nat → Nat} {n : Nat} {Q : jw_O → jh_H → Prop} (hm : mo_ok h mo ar) (hd : jh_i h mo 516 = nI n) (hn : n ≤ 60) (q1 : n = 60 → Q (.inl (some (.inl 0))) (mo_rf h mo 1)) (q2 : n < 60 → Q (.inl (some (.inl (nI n)))) (mo_mk h mo ar n 3 0)) : jw_C g 2 0 0 m_M_map [.inr (.inr (some mo))] h Q := by
  refine jw_intro (ls := [some (.inr (.inr (some mo)))]) (by decide) k_M_map rfl (by simp [lo_fit, jv_c]) hg ?_
  refine jw_aload_n rfl rfl ?_
  refine js_iconst (x := 3) rfl rfl ?_
  refine js_iconst (x := 0) rfl rfl ?_
  refine js_call (As := [.inl 3, .inl 0]) rfl l_M_make c_M_165 i_M_make s_M_make jc_o8 rfl hm.1 rfl (cm_make hg hm hd hn (fun z => ?_) (fun z => ?_)) (by decide) (Nat.le_of_ble_eq_true rfl) (by omega) (by omega) rfl
  · refine jw_ireturn rfl rfl rfl ?_
    exact q1 z
  · refine jw_ireturn rfl rfl rfl ?_
    exact q2 z
set_option maxHeartbeats 4000000 in
set_option maxRecDepth 100000 in
theorem cm_type {g : jg_G} (hg : (jg_l g).stackTraces = false) {h : jh_H} {mo : Nat} {ar : Nat → Nat} {n : Nat} {c : Int32} {Q : jw_O → jh_H → Prop} (hm : mo_ok h mo ar) (hd : jh_i h mo 514 = nI n) (hn : n ≤ 200) (q1 : (c < 0 ∨ 127 < c) → Q (.inl (some (.inl 0))) (mo_rf h mo 1)) (q2 : ∀ k, k < 128 → c = nI k → n = 200 → Q (.inl (some (.inl 0))) (mo_rf h mo 2)) (q3 : ∀ k, k < 128 → c = nI k → n < 200 → Q (.inl (some (.inl (nI (n + 1))))) (jh_si (jh_si (jh_sI h (ar 519) n (nI k)) mo 514 (nI (n + 1))) mo 512 0)) : jw_C g 1 0 0 m_M_type [.inr (.inr (some mo)), .inl c] h Q := by
  refine jw_intro (ls := [some (.inr (.inr (some mo))), some (.inl c)]) (by decide) k_M_type rfl (by simp [lo_fit, jv_c]) hg ?_
  have at10 : (c < 0 ∨ 127 < c) → jw_J g 1 m_M_type jw_T0 10 [some (.inr (.inr (some mo))), some (.inl c)] [] h 0 0 Q := by
    intro hc
    refine jw_aload_n rfl rfl ?_
    refine js_iconst (x := 1) rfl rfl ?_
    refine js_call (As := [.inl 1]) rfl l_M_refuse c_M_158 i_M_refuse s_M_refuse jc_o8 rfl (hm.1) rfl (cm_refuse hg hm.1 ?_) (by decide) (Nat.le_of_ble_eq_true rfl) (by omega) (by omega) rfl
    refine jw_ireturn rfl rfl rfl ?_
    exact q1 hc
  refine jw_iload_n rfl rfl ?_
  refine jw_if_lt 10 rfl rfl (fun z => at10 (Or.inl z)) (fun z1 => ?_)
  refine jw_iload_n rfl rfl ?_
  refine js_bipush (x := 127) rfl rfl ?_
  refine jw_icmp_le 16 rfl rfl (fun z2 => ?_) (fun z2 => at10 (Or.inr (Int32.not_le.mp z2)))
  obtain ⟨k, hk, rfl⟩ := nI_of2 (M := 127) (n := 127) (by decide) z1 z2
  refine jw_aload_n rfl rfl ?_
  refine jw_gi rfl g_M_16 hm.1 hd ?_
  refine js_sipush (x := 200) rfl rfl ?_
  refine jw_icmp_ne 32 rfl rfl (fun z3 => ?_) (fun z3 => ?_)
  rotate_left
  · have h1 : n = 200 := (nI_eq (b := 200) (by omega) (by omega)).mp z3
    refine jw_aload_n rfl rfl ?_
    refine js_iconst (x := 2) rfl rfl ?_
    refine js_call (As := [.inl 2]) rfl l_M_refuse c_M_158 i_M_refuse s_M_refuse jc_o8 rfl (hm.1) rfl (cm_refuse hg hm.1 ?_) (by decide) (Nat.le_of_ble_eq_true rfl) (by omega) (by omega) rfl
    refine jw_ireturn rfl rfl rfl ?_
    exact q2 k (by omega) rfl h1
  have h1 : n < 200 := by
    have : ¬ n = 200 := fun z => z3 (by rw [z]; rfl)
    omega
  have hn1 : vp_nar .char (nI k) = nI k := by simp only [vp_nar, (pk_charN (q := k) (by omega)).1]
  have hc1 : ((nI k).toUInt32 % 65536).toInt32 = nI k := by
    have h1 := pk_char (nI k)
    rw [pk_tn (by omega), Nat.mod_eq_of_lt (by omega)] at h1
    exact h1
  refine jw_aload_n rfl rfl ?_
  refine jw_gr rfl g_M_31 hm.1 (mo_r hm 0 rfl) ?_
  refine jw_aload_n rfl rfl ?_
  refine jw_gi rfl g_M_16 hm.1 hd ?_
  refine jw_iload_n rfl rfl ?_
  refine jw_i2c rfl ?_
  rw [hc1]
  refine js_cast (n) rfl (mo_a hm 0 rfl) (by decide) (by rfl)  rfl (by omega) (by decide) ?_
  refine jw_aload_n rfl rfl ?_
  refine jw_dup rfl rfl ?_
  refine jw_gi rfl g_M_16 (mo_sI hm).1 hd ?_
  refine js_iconst (x := 1) rfl rfl ?_
  rw [hn1]
  refine jw_iadd rfl ?_
  rw [show nI n + 1 = nI (n + 1) from nI_1 n]
  refine jw_pi rfl p_M_type_16 (mo_sI hm).1 ?_
  refine jw_aload_n rfl rfl ?_
  refine jw_aload_n rfl rfl ?_
  refine jw_gi rfl g_M_16 (mo_si (mo_sI hm)).1 (jh_u_s _ _ _ _) ?_
  refine js_call (As := [.inl (nI (n + 1))]) rfl l_M_fine c_M_162 i_M_fine s_M_fine jc_o8 rfl ((mo_si (mo_sI hm)).1) rfl (cm_fine hg (mo_si (mo_sI hm)).1 ?_) (by decide) (Nat.le_of_ble_eq_true rfl) (by omega) (by omega) rfl
  refine jw_ireturn rfl rfl rfl ?_
  exact q3 k (by omega) rfl h1
set_option maxHeartbeats 4000000 in
set_option maxRecDepth 100000 in
theorem cm_kind {g : jg_G} (hg : (jg_l g).stackTraces = false) {h : jh_H} {mo : Nat} {ar : Nat → Nat} {n : Nat} {x : Int32} {Q : jw_O → jh_H → Prop} (hm : mo_ok h mo ar) (hd : jh_i h mo 516 = nI n) (hn : n ≤ 60) (q1 : (x < 0 ∨ nI n ≤ x) → Q (.inl (some (.inl 0))) (mo_rf h mo 1)) (q2 : ∀ i, i < n → x = nI i → Q (.inl (some (.inl (jh_I h (ar 520) i)))) (jh_si h mo 512 0)) : jw_C g 1 0 0 m_M_kind [.inr (.inr (some mo)), .inl x] h Q := by
  refine jw_intro (ls := [some (.inr (.inr (some mo))), some (.inl x)]) (by decide) k_M_kind rfl (by simp [lo_fit, jv_c]) hg ?_
  refine jw_aload_n rfl rfl ?_
  refine jw_iload_n rfl rfl ?_
  refine js_call (As := [.inl x]) rfl l_M_no c_M_169 i_M_no s_M_no jc_o8 rfl hm.1 rfl (cm_no hg hm.1 hd hn (fun z => ?_) (fun i hi z => ?_)) (by decide) (Nat.le_of_ble_eq_true rfl) (by omega) (by omega) rfl
  · refine jw_if_eq 16 rfl rfl (fun c => absurd c (by decide)) (fun _ => ?_)
    refine jw_aload_n rfl rfl ?_
    refine js_iconst (x := 1) rfl rfl ?_
    refine js_call (As := [.inl 1]) rfl l_M_refuse c_M_158 i_M_refuse s_M_refuse jc_o8 rfl (hm.1) rfl (cm_refuse hg hm.1 ?_) (by decide) (Nat.le_of_ble_eq_true rfl) (by omega) (by omega) rfl
    refine jw_goto 26 rfl rfl ?_
    refine jw_ireturn rfl rfl rfl ?_
    exact q1 z
  · subst z
    refine jw_if_eq 16 rfl rfl (fun _ => ?_) (fun c => absurd rfl c)
    refine jw_aload_n rfl rfl ?_
    refine jw_aload_n rfl rfl ?_
    refine jw_gr rfl g_M_35 hm.1 (mo_r hm 1 rfl) ?_
    refine jw_iload_n rfl rfl ?_
    refine js_iald (i) rfl (mo_a hm 1 rfl) (by decide) (by rfl)  rfl (by omega) (by decide) ?_
    refine js_call (As := [.inl _]) rfl l_M_fine c_M_162 i_M_fine s_M_fine jc_o8 rfl (hm.1) rfl (cm_fine hg hm.1 ?_) (by decide) (Nat.le_of_ble_eq_true rfl) (by omega) (by omega) rfl
    refine jw_ireturn rfl rfl rfl ?_
    exact q2 i hi rfl
set_option maxHeartbeats 4000000 in
set_option maxRecDepth 100000 in
theorem cm_at {g : jg_G} (hg : (jg_l g).stackTraces = false) {h : jh_H} {mo : Nat} {ar : Nat → Nat} {n : Nat} {x : Int32} {Q : jw_O → jh_H → Prop} (hm : mo_ok h mo ar) (hd : jh_i h mo 547 = nI n) (hn : n ≤ 400) (q1 : (x < 0 ∨ nI n ≤ x) → Q (.inl (some (.inl 0))) (mo_rf h mo 1)) (q2 : ∀ i, i < n → x = nI i → Q (.inl (some (.inl (jh_I h (ar 544) i)))) (jh_si h mo 512 0)) : jw_C g 1 0 0 m_M_at [.inr (.inr (some mo)), .inl x] h Q := by
  refine jw_intro (ls := [some (.inr (.inr (some mo))), some (.inl x)]) (by decide) k_M_at rfl (by simp [lo_fit, jv_c]) hg ?_
  have at12 : (x < 0 ∨ nI n ≤ x) → jw_J g 1 m_M_at jw_T0 12 [some (.inr (.inr (some mo))), some (.inl x)] [] h 0 0 Q := by
    intro hx
    refine jw_aload_n rfl rfl ?_
    refine js_iconst (x := 1) rfl rfl ?_
    refine js_call (As := [.inl 1]) rfl l_M_refuse c_M_158 i_M_refuse s_M_refuse jc_o8 rfl (hm.1) rfl (cm_refuse hg hm.1 ?_) (by decide) (Nat.le_of_ble_eq_true rfl) (by omega) (by omega) rfl
    refine jw_goto 30 rfl rfl ?_
    refine jw_ireturn rfl rfl rfl ?_
    exact q1 hx
  refine jw_iload_n rfl rfl ?_
  refine jw_if_lt 12 rfl rfl (fun c => at12 (Or.inl c)) (fun c => ?_)
  refine jw_iload_n rfl rfl ?_
  refine jw_aload_n rfl rfl ?_
  refine jw_gi rfl g_M_119 hm.1 hd ?_
  refine jw_icmp_lt 20 rfl rfl (fun c2 => ?_) (fun c2 => at12 (Or.inr (Int32.not_lt.mp c2)))
  rcases pk_ix x (n := n) (by omega) with z | z | ⟨i, hi, rfl⟩
  · exact absurd z c
  · exact absurd c2 (Int32.not_lt.mpr z)
  refine jw_aload_n rfl rfl ?_
  refine jw_aload_n rfl rfl ?_
  refine jw_gr rfl g_M_110 hm.1 (mo_r hm 25 rfl) ?_
  refine jw_iload_n rfl rfl ?_
  refine js_cald (i) rfl (mo_a hm 25 rfl) (by decide) (by rfl)  rfl (by omega) (by decide) ?_
  refine js_call (As := [.inl _]) rfl l_M_fine c_M_162 i_M_fine s_M_fine jc_o8 rfl (hm.1) rfl (cm_fine hg hm.1 ?_) (by decide) (Nat.le_of_ble_eq_true rfl) (by omega) (by omega) rfl
  refine jw_ireturn rfl rfl rfl ?_
  exact q2 i hi rfl
end
section
/-! the model: compile, count, find -/
set_option maxHeartbeats 4000000 in
set_option maxRecDepth 100000 in
theorem cm_moved {g : jg_G} (hg : (jg_l g).stackTraces = false) {h : jh_H} {mo : Nat} {by0 v : Int32} {Q : jw_O → jh_H → Prop} (hq : Q (.inl (some (.inl (if v < 0 then -1 else v + by0)))) h) : jw_C g 0 0 0 m_M_moved [.inr (.inr (some mo)), .inl v, .inl by0] h Q := by
  refine jw_intro (ls := [some (.inr (.inr (some mo))), some (.inl v), some (.inl by0)]) (by decide) k_M_moved rfl (by simp [lo_fit, jv_c]) hg ?_
  refine jw_iload_n rfl rfl ?_
  refine jw_if_ge 8 rfl rfl (fun c => ?_) (fun c => ?_)
  · rw [if_neg (Int32.not_lt.mpr c)] at hq
    refine jw_iload_n rfl rfl ?_
    refine jw_iload_n rfl rfl ?_
    refine jw_iadd rfl ?_
    refine jw_ireturn rfl rfl rfl ?_
    exact hq
  · rw [if_pos (Int32.not_le.mp c)] at hq
    refine js_iconst (x := (-1)) rfl rfl ?_
    refine jw_goto 11 rfl rfl ?_
    refine jw_ireturn rfl rfl rfl ?_
    exact hq
def pp_B (p0 e : Nat) (x : Nat × Nat × Nat × Nat × Nat) : Prop := p0 ≤ x.1 ∧ x.1 ≤ x.2.1 ∧ x.2.1 ≤ x.2.2.1 ∧ x.2.2.1 ≤ x.2.2.2.1 ∧ x.2.2.2.1 ≤ e ∧ x.2.2.2.2 ≤ 10
theorem sp_q_le (t : Nat → Nat) {p e : Nat} (hp : p ≤ e) (hk : sp_k t p e < e) (hq : sp_q t p e < e) : p ≤ sp_k t p e ∧ sp_k t p e + 2 ≤ sp_f t p e ∧ sp_f t p e ≤ sp_q t p e ∧ sp_q t p e + sp_n (sp_th t p e) ≤ e := by
  have hpk : p ≤ sp_k t p e := (sp_fd_le t e [123, 123] (e - p) p hp).2
  have hff := sp_f_le t hp hk
  have hfq : sp_f t p e ≤ sp_q t p e := (sp_fd_le t e _ _ _ hff).2
  have hkf : sp_k t p e + 2 ≤ sp_f t p e := by
    rw [sp_f]; cases sp_th t p e <;> simp [sp_n]
  have h1 := sp_fd_at t e (sp_cl (sp_th t p e)) (e - sp_f t p e) (sp_f t p e) hff (by omega) hq
  have h2 := sp_st_len t (by cases sp_th t p e <;> simp [sp_cl]) (by cases sp_th t p e <;> simp [sp_cl]) (show sp_q t p e ≤ e by omega) h1
  have h3 : (sp_cl (sp_th t p e)).length = sp_n (sp_th t p e) := by cases sp_th t p e <;> rfl
  have h4 : sp_q t p e + (sp_cl (sp_th t p e)).length ≤ e := h2
  exact ⟨hpk, hkf, hfq, by omega⟩
theorem pp_inv (t : Nat → Nat) (e p0 : Nat) : ∀ f p n T d os ot la, p0 ≤ p → p ≤ e → (∀ i, i < n → pp_B p0 e (T i)) → ∀ r, pp t e f p n T d os ot la = .inr r → ∀ i, i < r.1 → pp_B p0 e (r.2.1 i) := by
  intro f
  induction f with
  | zero => intro p n T d os ot la _ _ _ r h; cases h
  | succ f ih =>
    intro p n T d os ot la hp0 hp hT r h
    rw [pp] at h
    by_cases hk : e ≤ sp_k t p e
    · rw [if_pos hk] at h
      by_cases hd : 0 < d
      · rw [if_pos hd] at h; cases h
      · rw [if_neg hd] at h; cases h; exact hT
    · rw [if_neg hk] at h
      by_cases hq : e ≤ sp_q t p e
      · rw [if_pos hq] at h; cases h
      · rw [if_neg hq] at h
        have hb := sp_q_le t hp (by omega) (by omega)
        cases hs : sp_sort t (sp_f t p e) (sp_q t p e) (sp_th t p e) with
        | none => rw [hs] at h; cases h
        | some s =>
          simp only [hs] at h
          have hs10 := sp_sort_le hs
          revert h
          cases pp_fit n s (fun x => (va_up T n (pp_new t p e s) x).2.2.2.2) d os (va_up ot n none) (va_up la n none) with
          | none => intro h; cases h
          | some z =>
            obtain ⟨d', os', ot', la'⟩ := z
            intro h
            refine ih _ _ _ d' os' ot' la' (by omega) hb.2.2.2 (fun i hi => ?_) r h
            by_cases z : i = n
            · subst z; rw [va_up_self]
              exact ⟨by show p0 ≤ sp_k t p e; omega, by show sp_k t p e ≤ sp_f t p e; omega, hb.2.2.1, by show sp_q t p e ≤ sp_q t p e + sp_n (sp_th t p e); omega, hb.2.2.2, hs10⟩
            · rw [va_up_ne _ _ z]; exact hT i (by omega)
theorem mo_fr.rd {h h' : jh_H} {h0 : jh_H} {mo : Nat} {ar : Nat → Nat} {F : Nat → Nat → Prop} (hm : mo_ok h0 mo ar) (hf : mo_fr h h' ar F) (i : Nat) {K t n j : Nat} (hi : mo_T[i]? = some (K, t, n)) (hF : ∀ k, F k j → k ≠ K ∧ ∃ x ∈ mo_T, x.1 = k) : jh_I h' (ar K) j = jh_I h (ar K) j := by
  refine hf.2.2.2.2.2.2.2 (ar K) j (fun k hk z => ?_)
  obtain ⟨h1, x, hx, rfl⟩ := hF k hk
  exact h1 (hm.2.2 x hx _ (List.mem_of_getElem? hi) z.symm)
theorem nI_mv {b c : Nat} (h : 800 ≤ b + c) : nI b + (nI c - 800) = nI (b + c - 800) := by
  rw [show (800 : Int32) = nI 800 from rfl, Int32.sub_eq_add_neg, ← Int32.add_assoc, nI_add, ← Int32.sub_eq_add_neg, pk_sub h]
theorem nI_mv2 {b c : Nat} (h : 200 ≤ b + c) : nI b + (nI c - 200) = nI (b + c - 200) := by
  rw [show (200 : Int32) = nI 200 from rfl, Int32.sub_eq_add_neg, ← Int32.add_assoc, nI_add, ← Int32.sub_eq_add_neg, pk_sub h]
set_option maxHeartbeats 4000000 in
set_option maxRecDepth 100000 in
theorem cm_find {g : jg_G} (hg : (jg_l g).stackTraces = false) {h : jh_H} {mo : Nat} {ar : Nat → Nat} {m c : Nat} {w : Int64} {Q : jw_O → jh_H → Prop} (hm : mo_ok h mo ar) (hm60 : m < 60) (hc : jh_I h (ar 521) m = nI c) (hc10 : c ≤ 10) (q1 : (∀ i, i < c → jh_G h (ar 524) (m * 10 + i) ≠ w) → Q (.inl (some (.inl (-1)))) h) (q2 : ∀ i, i < c → jh_G h (ar 524) (m * 10 + i) = w → (∀ j, j < i → jh_G h (ar 524) (m * 10 + j) ≠ w) → Q (.inl (some (.inl (nI i)))) h) : jw_C g 0 0 0 m_M_find [.inr (.inr (some mo)), .inl (nI m), .inr (.inl w)] h Q := by
  refine jw_intro (ls := [some (.inr (.inr (some mo))), some (.inl (nI m)), some (.inr (.inl w)), none, none]) (by decide) k_M_find rfl (by simp [lo_fit, jv_c]) hg ?_
  have loop : ∀ n i, i + n = c → (∀ j, j < i → jh_G h (ar 524) (m * 10 + j) ≠ w) → jw_J g 0 m_M_find jw_T0 3 [some (.inr (.inr (some mo))), some (.inl (nI m)), some (.inr (.inl w)), none, some (.inl (nI i))] [] h 0 0 Q := by
    intro n
    induction n with
    | zero =>
      intro i hi hb
      refine jw_iload rfl rfl ?_
      refine jw_aload_n rfl rfl ?_
      refine jw_gr rfl g_M_39 hm.1 (mo_r hm 2 rfl) ?_
      refine jw_iload_n rfl rfl ?_
      refine js_iald (m) rfl (mo_a hm 2 rfl) (by decide) (by rfl)  rfl (by omega) (by decide) ?_
      rw [hc]
      refine jw_icmp_ge 40 rfl rfl (fun _ => ?_) (fun z => absurd ((nI_leI (by omega) (by omega)).mpr (by omega)) z)
      refine js_iconst (x := (-1)) rfl rfl ?_
      refine jw_ireturn rfl rfl rfl ?_
      exact q1 (fun j hj => hb j (by omega))
    | succ n ih =>
      intro i hi hb
      refine jw_iload rfl rfl ?_
      refine jw_aload_n rfl rfl ?_
      refine jw_gr rfl g_M_39 hm.1 (mo_r hm 2 rfl) ?_
      refine jw_iload_n rfl rfl ?_
      refine js_iald (m) rfl (mo_a hm 2 rfl) (by decide) (by rfl)  rfl (by omega) (by decide) ?_
      rw [hc]
      refine jw_icmp_ge 40 rfl rfl (fun z => absurd ((nI_leI (by omega) (by omega)).mp z) (by omega)) (fun _ => ?_)
      refine jw_aload_n rfl rfl ?_
      refine jw_gr rfl g_M_48 hm.1 (mo_r hm 5 rfl) ?_
      refine jw_iload_n rfl rfl ?_
      refine js_bipush (x := 10) rfl rfl ?_
      refine jw_imul rfl ?_
      refine jw_iload rfl rfl ?_
      rw [show nI m * 10 = nI (m * 10) from pk_mul m 10]
      refine jw_iadd rfl ?_
      rw [nI_add]
      refine js_lald (m * 10 + i) rfl (mo_a hm 5 rfl) (by decide) (by rfl)  rfl (by omega) (by decide) ?_
      refine jw_lload_n rfl rfl ?_
      refine jw_lcmp rfl ?_
      refine jw_if_ne 34 rfl rfl (fun z => ?_) (fun z => ?_)
      · have h1 : jh_G h (ar 524) (m * 10 + i) ≠ w := fun e => z ((lg_cmp_eq _ _).mpr e)
        refine js_iinc rfl rfl (nI_1 i) rfl (by decide) rfl ?_
        refine jw_goto 3 rfl rfl ?_
        refine ih (i + 1) (by omega) (fun j hj => ?_)
        by_cases e : j = i
        · rw [e]; exact h1
        · exact hb j (by omega)
      · have h1 := (lg_cmp_eq _ _).mp z
        refine jw_iload rfl rfl ?_
        refine jw_ireturn rfl rfl rfl ?_
        exact q2 i (by omega) h1 hb
  refine js_iconst (x := 0) rfl rfl ?_
  refine js_istore rfl rfl (by decide) rfl ?_
  exact loop c 0 (by omega) (fun j hj => absurd hj (by omega))
end
section
/-! the model: compile -/
theorem pp_fit_os {i s : Nat} {so : Nat → Nat} {d d' : Nat} {os os' : Nat → Nat} {ot la ot' la' : pp_O} (h : pp_fit i s so d os ot la = some (d', os', ot', la')) (ho : ∀ j, j < d → os j < i) : ∀ j, j < d' → os' j < i + 1 := by
  have key : ∀ dd oo, (d', os') = (dd, oo) → (∀ j, j < dd → oo j < i + 1) → ∀ j, j < d' → os' j < i + 1 := by
    intro dd oo e h; cases e; exact h
  have old : ∀ j, j < d → os j < i + 1 := fun j hj => by have := ho j hj; omega
  rw [pp_fit] at h
  by_cases c1 : 2 < s ∧ s < 6
  · rw [if_pos c1] at h
    by_cases c2 : d = 4
    · rw [if_pos c2] at h; cases h
    · rw [if_neg c2] at h; cases h
      intro j hj
      by_cases z : j = d
      · rw [z, va_up_self]; omega
      · rw [va_up_ne _ _ z]; exact old j (by omega)
  rw [if_neg c1] at h
  by_cases c2 : s ≤ 2 ∨ s = 10
  · rw [if_pos c2] at h; cases h; exact old
  rw [if_neg c2] at h
  by_cases c3 : d = 0
  · rw [if_pos c3] at h; cases h
  rw [if_neg c3] at h
  by_cases c4 : s = 6
  · rw [if_pos c4] at h
    by_cases c5 : (ot (os (d - 1))).isSome = true
    · rw [if_pos c5] at h; cases h
    · rw [if_neg c5] at h; cases h; exact old
  rw [if_neg c4] at h
  by_cases c5 : so (os (d - 1)) ≠ s - 4
  · rw [if_pos c5] at h; cases h
  · rw [if_neg c5] at h; cases h
    exact fun j hj => old j (by omega)
theorem pp_inl (t : Nat → Nat) (e : Nat) : ∀ f p n T d os ot la, p ≤ e → (∀ i, i < n → (T i).1 ≤ e) → (∀ j, j < d → os j < n) → ∀ r, pp t e f p n T d os ot la = .inl r → r ≤ e := by
  intro f
  induction f with
  | zero => intro p n T d os ot la hp _ _ r h; cases h; exact hp
  | succ f ih =>
    intro p n T d os ot la hp hT ho r h
    rw [pp] at h
    have hke := (sp_fd_le t e [123, 123] (e - p) p hp).1
    have hke2 : sp_k t p e ≤ e := hke
    by_cases hk : e ≤ sp_k t p e
    · rw [if_pos hk] at h
      by_cases hd : 0 < d
      · rw [if_pos hd] at h; cases h; exact hT _ (ho _ (by omega))
      · rw [if_neg hd] at h; cases h
    · rw [if_neg hk] at h
      by_cases hq : e ≤ sp_q t p e
      · rw [if_pos hq] at h; cases h; exact hke2
      · rw [if_neg hq] at h
        have hb := sp_q_le t hp (by omega) (by omega)
        cases hs : sp_sort t (sp_f t p e) (sp_q t p e) (sp_th t p e) with
        | none => rw [hs] at h; cases h; exact hke2
        | some s =>
          simp only [hs] at h
          revert h
          cases hfit : pp_fit n s (fun x => (va_up T n (pp_new t p e s) x).2.2.2.2) d os (va_up ot n none) (va_up la n none) with
          | none => intro h; cases h; exact hke2
          | some z =>
            obtain ⟨d', os', ot', la'⟩ := z
            intro h
            refine ih _ _ _ d' os' ot' la' hb.2.2.2 (fun i hi => ?_) (pp_fit_os hfit ho) r h
            by_cases z : i = n
            · subst z; rw [va_up_self]; exact hke2
            · rw [va_up_ne _ _ z]; exact hT i (by omega)
/-- whose else and end is where: places of the table -/
theorem pp_fit_ix {i s : Nat} {so : Nat → Nat} {d d' : Nat} {os os' : Nat → Nat} {ot la ot' la' : pp_O} (h : pp_fit i s so d os ot la = some (d', os', ot', la')) (ho : ∀ j, j < d → os j < i) (hx : ∀ j, j < i + 1 → (∀ x, ot j = some x → x < i + 1) ∧ ∀ x, la j = some x → x < i + 1) : ∀ j, j < i + 1 → (∀ x, ot' j = some x → x < i + 1) ∧ ∀ x, la' j = some x → x < i + 1 := by
  have up : ∀ (f : pp_O) (a b : Nat), (∀ j, j < i + 1 → ∀ x, f j = some x → x < i + 1) → b < i + 1 → ∀ j, j < i + 1 → ∀ x, va_up f a (some b) j = some x → x < i + 1 := by
    intro f a b hf hb j hj x hx
    by_cases z : j = a
    · rw [z, va_up_self] at hx; cases hx; exact hb
    · rw [va_up_ne _ _ z] at hx; exact hf j hj x hx
  rw [pp_fit] at h
  by_cases c1 : 2 < s ∧ s < 6
  · rw [if_pos c1] at h
    by_cases c2 : d = 4
    · rw [if_pos c2] at h; cases h
    · rw [if_neg c2] at h; cases h; exact hx
  rw [if_neg c1] at h
  by_cases c2 : s ≤ 2 ∨ s = 10
  · rw [if_pos c2] at h; cases h; exact hx
  rw [if_neg c2] at h
  by_cases c3 : d = 0
  · rw [if_pos c3] at h; cases h
  rw [if_neg c3] at h
  have hb := ho (d - 1) (by omega)
  by_cases c4 : s = 6
  · rw [if_pos c4] at h
    by_cases c5 : (ot (os (d - 1))).isSome = true
    · rw [if_pos c5] at h; cases h
    · rw [if_neg c5] at h; cases h
      exact fun j hj => ⟨up ot _ i (fun j hj => (hx j hj).1) (by omega) j hj, up la _ _ (fun j hj => (hx j hj).2) (by omega) j hj⟩
  rw [if_neg c4] at h
  by_cases c5 : so (os (d - 1)) ≠ s - 4
  · rw [if_pos c5] at h; cases h
  · rw [if_neg c5] at h; cases h
    exact fun j hj => ⟨(hx j hj).1, up _ _ i (up la _ _ (fun j hj => (hx j hj).2) (by omega)) (by omega) j hj⟩
theorem pp_ix (t : Nat → Nat) (e : Nat) : ∀ f p n T d os ot la, (∀ i, i < n → (∀ x, ot i = some x → x < n) ∧ ∀ x, la i = some x → x < n) → (∀ j, j < d → os j < n) → ∀ r : Nat × pp_T × pp_O × pp_O, pp t e f p n T d os ot la = .inr r → ∀ i, i < r.1 → (∀ x, r.2.2.1 i = some x → x < r.1) ∧ ∀ x, r.2.2.2 i = some x → x < r.1 := by
  intro f
  induction f with
  | zero => intro p n T d os ot la _ _ r h; cases h
  | succ f ih =>
    intro p n T d os ot la hx ho r h
    rw [pp] at h
    by_cases hk : e ≤ sp_k t p e
    · rw [if_pos hk] at h
      by_cases hd : 0 < d
      · rw [if_pos hd] at h; cases h
      · rw [if_neg hd] at h; cases h; exact hx
    · rw [if_neg hk] at h
      by_cases hq : e ≤ sp_q t p e
      · rw [if_pos hq] at h; cases h
      · rw [if_neg hq] at h
        cases hs : sp_sort t (sp_f t p e) (sp_q t p e) (sp_th t p e) with
        | none => rw [hs] at h; cases h
        | some s =>
          simp only [hs] at h
          revert h
          cases hfit : pp_fit n s (fun x => (va_up T n (pp_new t p e s) x).2.2.2.2) d os (va_up ot n none) (va_up la n none) with
          | none => intro h; cases h
          | some z =>
            obtain ⟨d', os', ot', la'⟩ := z
            intro h
            refine ih _ _ _ d' os' ot' la' (pp_fit_ix hfit ho (fun j hj => ?_)) (pp_fit_os hfit ho) r h
            by_cases z : j = n
            · subst z; rw [va_up_self, va_up_self]; exact ⟨(fun x hx => by cases hx), (fun x hx => by cases hx)⟩
            · rw [va_up_ne _ _ z, va_up_ne _ _ z]
              have := hx j (by omega)
              exact ⟨fun x h => by have := this.1 x h; omega, fun x h => by have := this.2 x h; omega⟩
def cp_F (k : Nat) (key j : Nat) : Prop := (key = 526 ∧ k * 200 ≤ j ∧ j < k * 200 + 200) ∨ (530 ≤ key ∧ key ≤ 536 ∧ k * 50 ≤ j ∧ j < k * 50 + 50) ∨ ((key = 527 ∨ key = 528 ∨ key = 529) ∧ j = k)
set_option maxHeartbeats 4000000 in
set_option maxRecDepth 100000 in
theorem cp_F_in {k key j : Nat} (h : cp_F k key j) : ∃ x ∈ mo_T, x.1 = key := by
  rcases h with h | h | h
  · exact ⟨(526, 0, 1000), by decide, h.1.symm⟩
  · have h3 : key = 530 ∨ key = 531 ∨ key = 532 ∨ key = 533 ∨ key = 534 ∨ key = 535 ∨ key = 536 := by omega
    rcases h3 with rfl | rfl | rfl | rfl | rfl | rfl | rfl
    all_goals first | exact ⟨(530, 1, 250), by decide, rfl⟩ | exact ⟨(531, 1, 250), by decide, rfl⟩ | exact ⟨(532, 1, 250), by decide, rfl⟩ | exact ⟨(533, 1, 250), by decide, rfl⟩ | exact ⟨(534, 1, 250), by decide, rfl⟩ | exact ⟨(535, 1, 250), by decide, rfl⟩ | exact ⟨(536, 1, 250), by decide, rfl⟩
  · rcases h.1 with rfl | rfl | rfl
    · exact ⟨(527, 1, 5), by decide, rfl⟩
    · exact ⟨(528, 1, 5), by decide, rfl⟩
    · exact ⟨(529, 3, 4), by decide, rfl⟩
def cp_sh (k : Nat) (x : Nat × Nat × Nat × Nat × Nat) : Nat × Nat × Nat × Nat × Nat := (x.1 + k * 200 - 800, x.2.1 + k * 200 - 800, x.2.2.1 + k * 200 - 800, x.2.2.2.1 + k * 200 - 800, x.2.2.2.2)
theorem mt_mv {k : Nat} {r : Option Nat} (hr : ∀ x, r = some x → x < 50) (hk : k ≤ 3) : (if mt_o 200 r < 0 then (-1 : Int32) else mt_o 200 r + (nI (k * 50) - 200)) = mt_o (k * 50) r := by
  cases r with
  | none => exact if_pos (show mt_o 200 none < 0 by decide)
  | some x =>
    have := hr x rfl
    have h1 : ¬ mt_o 200 (some x) < 0 := nI_pos (by omega)
    rw [if_neg h1]
    show nI (200 + x) + (nI (k * 50) - 200) = nI (k * 50 + x)
    have e : 200 + x + k * 50 - 200 = k * 50 + x := by omega
    rw [nI_mv2 (by omega), e]
set_option maxHeartbeats 4000000 in
set_option maxRecDepth 100000 in
theorem cm_compile {g : jg_G} (hg : (jg_l g).stackTraces = false) {h : jh_H} {mo : Nat} {n0 : Nat} {ar ln t0 : Nat → Nat} {kk : Int32} {Q : jw_O → jh_H → Prop} (hm : mo_ok h mo ar) (hn0 : n0 ≤ 200) (hty : jh_i h mo 514 = nI n0) (hln : ∀ i, i < n0 → jh_I h (ar 519) i = nI (ln i) ∧ ln i < 128) (ht0 : mo_tx h ar t0)
    (q1 : (kk < 0 ∨ 3 < kk) → Q (.inl (some (.inl 0))) (mo_rf h mo 1))
    (q2 : ∀ k, k ≤ 3 → kk = nI k → ∀ h1 t, (∀ i, t i = if 800 ≤ i ∧ i < 800 + n0 then ln (i - 800) else t0 i) → mo_fr h h1 ar ta_F → mo_tx h1 ar t → match pp_all t 800 (800 + n0) with
      | .inl p => Q (.inl (some (.inl 0))) (mo_rf (jh_si (jh_si h1 mo 515 (nI (p - 800))) mo 514 0) mo 2)
      | .inr (n, T, ot, la) => n ≤ 50 → (∀ i, i < n → pp_B 800 (800 + n0) (T i)) → ∀ h3, mo_fr (jh_si (jh_si h1 mo 515 (-1)) mo 514 0) h3 ar (cp_F k) → mo_tx h3 ar (fun j => if k * 200 ≤ j ∧ j < k * 200 + n0 then t (800 + (j - k * 200)) else t j) → mt_ok h3 ar (k * 50) n (fun i => cp_sh k (T i)) ot la → jh_I h3 (ar 527) k = nI n0 → jh_I h3 (ar 528) k = nI n → jh_I h3 (ar 529) k = 1 → Q (.inl (some (.inl (nI n)))) (jh_si h3 mo 512 0)) :
    jw_C g 9 0 0 m_M_compile [.inr (.inr (some mo)), .inl kk] h Q := by
  refine jw_intro (ls := [some (.inr (.inr (some mo))), some (.inl kk), none, none, none, none, none]) (by decide) k_M_compile rfl (by simp [lo_fit, jv_c]) hg ?_
  have at9 : (kk < 0 ∨ 3 < kk) → jw_J g 9 m_M_compile jw_T0 9 [some (.inr (.inr (some mo))), some (.inl kk), none, none, none, none, none] [] h 0 0 Q := by
    intro hx
    refine jw_aload_n rfl rfl ?_
    refine js_iconst (x := 1) rfl rfl ?_
    refine js_call (As := [.inl 1]) rfl l_M_refuse c_M_158 i_M_refuse s_M_refuse jc_o8 rfl (hm.1) rfl (cm_refuse hg hm.1 ?_) (by decide) (Nat.le_of_ble_eq_true rfl) (by omega) (by omega) rfl
    refine jw_ireturn rfl rfl rfl ?_
    exact q1 hx
  refine jw_iload_n rfl rfl ?_
  refine jw_if_lt 9 rfl rfl (fun z => at9 (Or.inl z)) (fun z1 => ?_)
  refine jw_iload_n rfl rfl ?_
  refine js_iconst (x := 3) rfl rfl ?_
  refine jw_icmp_le 15 rfl rfl (fun z2 => ?_) (fun z2 => at9 (Or.inr (Int32.not_le.mp z2)))
  obtain ⟨k, hk, rfl⟩ := nI_of2 (M := 3) (n := 3) (by decide) z1 z2
  have q2 := q2 k hk rfl
  refine jw_aload_n rfl rfl ?_
  refine jw_gi rfl g_M_16 hm.1 hty ?_
  refine js_istore_n rfl rfl (by decide) rfl ?_
  refine jw_aload_n rfl rfl ?_
  refine jw_aload_n rfl rfl ?_
  refine js_call (As := []) rfl l_M_takeApart c_M_275 i_M_takeApart s_M_takeApart jc_o8 rfl hm.1 rfl (cm_takeApart hg hm hn0 hty hln ht0 (fun h1 t ht hfr htx => ?_)) (by decide) (Nat.le_of_ble_eq_true rfl) (by omega) (by omega) rfl
  have q2 := q2 h1 t ht hfr htx
  have hm1 : mo_ok h1 mo ar := mo_fr.ok hfr hm
  cases hpp : pp_all t 800 (800 + n0) with
  | inl p =>
    simp only [hpp] at q2
    have hp : p ≤ 1000 := by
      have := pp_inl t (800 + n0) _ 800 0 _ 0 _ _ _ (by omega) (fun i hi => absurd hi (by omega)) (fun j hj => absurd hj (by omega)) p hpp
      omega
    show jw_J _ _ _ _ _ _ _ _ _ _ _
    refine jw_pi rfl p_M_compile_19 hm1.1 ?_
    refine jw_aload_n rfl rfl ?_
    refine js_iconst (x := 0) rfl rfl ?_
    refine jw_pi rfl p_M_compile_16 (mo_si hm1).1 ?_
    refine jw_aload_n rfl rfl ?_
    refine jw_gi rfl g_M_19 (mo_si (mo_si hm1)).1 ((jh_u_k _ _ _ _ (by decide)).trans (jh_u_s _ _ _ _)) ?_
    refine jw_if_lt 46 rfl rfl (fun z => absurd z (nI_pos (by omega))) (fun _ => ?_)
    refine jw_aload_n rfl rfl ?_
    refine js_iconst (x := 2) rfl rfl ?_
    refine js_call (As := [.inl 2]) rfl l_M_refuse c_M_158 i_M_refuse s_M_refuse jc_o8 rfl ((mo_si (mo_si hm1)).1) rfl (cm_refuse hg (mo_si (mo_si hm1)).1 ?_) (by decide) (Nat.le_of_ble_eq_true rfl) (by omega) (by omega) rfl
    refine jw_ireturn rfl rfl rfl ?_
    exact q2
  | inr r =>
    obtain ⟨n, T, ot, la⟩ := r
    simp only [hpp] at q2
    intro hmt htg hn50
    have hB : ∀ i, i < n → pp_B 800 (800 + n0) (T i) := pp_inv t (800 + n0) 800 _ 800 0 _ 0 _ _ _ (by omega) (by omega) (fun i hi => absurd hi (by omega)) (n, T, ot, la) hpp
    have q2 := q2 hn50 hB
    have hol : ∀ i, i < n → (∀ x, ot i = some x → x < 50) ∧ ∀ x, la i = some x → x < 50 := fun i hi => ⟨fun x hx => by have := (pp_ix t (800 + n0) _ 800 0 _ 0 _ _ _ (fun i hi => absurd hi (by omega)) (fun j hj => absurd hj (by omega)) (n, T, ot, la) hpp i hi).1 x hx; have : x < n := this; omega, fun x hx => by have := (pp_ix t (800 + n0) _ 800 0 _ 0 _ _ _ (fun i hi => absurd hi (by omega)) (fun j hj => absurd hj (by omega)) (n, T, ot, la) hpp i hi).2 x hx; have : x < n := this; omega⟩
    show jw_J _ _ _ _ _ _ _ _ _ _ _
    refine jw_pi rfl p_M_compile_19 hm1.1 ?_
    refine jw_aload_n rfl rfl ?_
    refine js_iconst (x := 0) rfl rfl ?_
    refine jw_pi rfl p_M_compile_16 (mo_si hm1).1 ?_
    refine jw_aload_n rfl rfl ?_
    refine jw_gi rfl g_M_19 (mo_si (mo_si hm1)).1 ((jh_u_k _ _ _ _ (by decide)).trans (jh_u_s _ _ _ _)) ?_
    refine jw_if_lt 46 rfl rfl (fun _ => ?_) (fun z => absurd (by decide) z)
    generalize hh2 : jh_si (jh_si h1 mo 515 (-1)) mo 514 0 = h2 at q2
    have hm2 : mo_ok h2 mo ar := by rw [← hh2]; exact mo_si (mo_si hm1)
    have eI : jh_I h2 = jh_I h1 := by rw [← hh2]; rfl
    have htx2 : mo_tx h2 ar t := fun i hi => by rw [eI]; exact htx i hi
    have hmt2 : mt_ok h2 ar 200 n T ot la := fun i hi => by rw [mt_at, eI]; exact hmt i hi
    have htg2 : jh_I h2 (ar 528) 4 = nI n := by rw [eI]; exact htg
    refine jw_iload_n rfl rfl ?_
    refine js_sipush (x := 200) rfl rfl ?_
    refine jw_imul rfl ?_
    rw [show nI k * 200 = nI (k * 200) from pk_mul k 200]
    refine js_sipush (x := 800) rfl rfl ?_
    refine jw_isub rfl ?_
    refine js_istore_n rfl rfl (by decide) rfl ?_
    refine jw_iload_n rfl rfl ?_
    refine js_bipush (x := 50) rfl rfl ?_
    refine jw_imul rfl ?_
    rw [show nI k * 50 = nI (k * 50) from pk_mul k 50]
    refine js_sipush (x := 200) rfl rfl ?_
    refine jw_isub rfl ?_
    refine js_istore rfl rfl (by decide) rfl ?_
    refine js_iconst (x := 0) rfl rfl ?_
    refine js_istore rfl rfl (by decide) rfl ?_
    -- the tags' loop
    have tagl : ∀ m i h3, i + m = n → mo_fr h2 h3 ar (cp_F k) → mo_tx h3 ar (fun j => if k * 200 ≤ j ∧ j < k * 200 + n0 then t (800 + (j - k * 200)) else t j) → mt_ok h3 ar (k * 50) i (fun i => cp_sh k (T i)) ot la → ∀ six, jw_J g 9 m_M_compile jw_T0 110 [some (.inr (.inr (some mo))), some (.inl (nI k)), some (.inl (nI n0)), some (.inl (nI (k * 200) - 800)), some (.inl (nI (k * 50) - 200)), some (.inl (nI (200 + i))), six] [] h3 0 0 Q := by
      intro m
      induction m with
      | zero =>
        intro i h3 hi hfr3 htx3 hmt3 six
        have hm3 : mo_ok h3 mo ar := mo_fr.ok hfr3 hm2
        have e4 : jh_I h3 (ar 528) 4 = nI n := by
          rw [mo_fr.rd hm2 hfr3 9 rfl (fun key hk => ⟨fun e => by subst e; rcases hk with hk | hk | hk <;> omega, cp_F_in hk⟩)]; exact htg2
        have ei : i = n := by omega
        subst ei
        refine jw_iload rfl rfl ?_
        refine js_sipush (x := 200) rfl rfl ?_
        refine jw_aload_n rfl rfl ?_
        refine jw_gr rfl g_M_62 hm3.1 (mo_r hm3 9 rfl) ?_
        refine js_iconst (x := 4) rfl rfl ?_
        refine js_iald (4) rfl (mo_a hm3 9 rfl) (by decide) (by rfl)  rfl (by decide) (by decide) ?_
        rw [e4]
        refine jw_iadd rfl ?_
        rw [show (200 : Int32) + nI i = nI (200 + i) from nI_add 200 i]
        refine jw_icmp_ge 256 rfl rfl (fun _ => ?_) (fun z => absurd ((nI_leI (by omega) (by omega)).mpr (by omega)) z)
        have f1 : mo_fr h2 (jh_sI h3 (ar 527) k (nI n0)) ar (cp_F k) := mo_fr.sI hfr3 (Or.inr (Or.inr ⟨Or.inl rfl, rfl⟩))
        have f2 : mo_fr h2 (jh_sI (jh_sI h3 (ar 527) k (nI n0)) (ar 528) k (nI i)) ar (cp_F k) := mo_fr.sI f1 (Or.inr (Or.inr ⟨Or.inr (Or.inl rfl), rfl⟩))
        have f3 : mo_fr h2 (jh_sI (jh_sI (jh_sI h3 (ar 527) k (nI n0)) (ar 528) k (nI i)) (ar 529) k 1) ar (cp_F k) := mo_fr.sI f2 (Or.inr (Or.inr ⟨Or.inr (Or.inr rfl), rfl⟩))
        have x3 : mo_tx (jh_sI (jh_sI (jh_sI h3 (ar 527) k (nI n0)) (ar 528) k (nI i)) (ar 529) k 1) ar (fun j => if k * 200 ≤ j ∧ j < k * 200 + n0 then t (800 + (j - k * 200)) else t j) := mo_tx_s hm (mo_tx_s hm (mo_tx_s hm htx3 8 rfl (by decide) _ _) 9 rfl (by decide) _ _) 10 rfl (by decide) _ _
        have m3 : mt_ok (jh_sI (jh_sI (jh_sI h3 (ar 527) k (nI n0)) (ar 528) k (nI i)) (ar 529) k 1) ar (k * 50) i (fun i => cp_sh k (T i)) ot la := by
          intro j hj
          have m1 := hmt3 j hj
          exact ⟨((jh_u_a _ _ _ _ (mo_ne hm 11 10 rfl rfl (by decide))).trans ((jh_u_a _ _ _ _ (mo_ne hm 11 9 rfl rfl (by decide))).trans ((jh_u_a _ _ _ _ (mo_ne hm 11 8 rfl rfl (by decide))).trans m1.1))), ((jh_u_a _ _ _ _ (mo_ne hm 13 10 rfl rfl (by decide))).trans ((jh_u_a _ _ _ _ (mo_ne hm 13 9 rfl rfl (by decide))).trans ((jh_u_a _ _ _ _ (mo_ne hm 13 8 rfl rfl (by decide))).trans m1.2.1))), ((jh_u_a _ _ _ _ (mo_ne hm 14 10 rfl rfl (by decide))).trans ((jh_u_a _ _ _ _ (mo_ne hm 14 9 rfl rfl (by decide))).trans ((jh_u_a _ _ _ _ (mo_ne hm 14 8 rfl rfl (by decide))).trans m1.2.2.1))), ((jh_u_a _ _ _ _ (mo_ne hm 12 10 rfl rfl (by decide))).trans ((jh_u_a _ _ _ _ (mo_ne hm 12 9 rfl rfl (by decide))).trans ((jh_u_a _ _ _ _ (mo_ne hm 12 8 rfl rfl (by decide))).trans m1.2.2.2.1))), ((jh_u_a _ _ _ _ (mo_ne hm 15 10 rfl rfl (by decide))).trans ((jh_u_a _ _ _ _ (mo_ne hm 15 9 rfl rfl (by decide))).trans ((jh_u_a _ _ _ _ (mo_ne hm 15 8 rfl rfl (by decide))).trans m1.2.2.2.2.1))), ((jh_u_a _ _ _ _ (mo_ne hm 16 10 rfl rfl (by decide))).trans ((jh_u_a _ _ _ _ (mo_ne hm 16 9 rfl rfl (by decide))).trans ((jh_u_a _ _ _ _ (mo_ne hm 16 8 rfl rfl (by decide))).trans m1.2.2.2.2.2.1))), ((jh_u_a _ _ _ _ (mo_ne hm 17 10 rfl rfl (by decide))).trans ((jh_u_a _ _ _ _ (mo_ne hm 17 9 rfl rfl (by decide))).trans ((jh_u_a _ _ _ _ (mo_ne hm 17 8 rfl rfl (by decide))).trans m1.2.2.2.2.2.2)))⟩
        refine jw_aload_n rfl rfl ?_
        refine jw_gr rfl g_M_59 hm3.1 (mo_r hm3 8 rfl) ?_
        refine jw_iload_n rfl rfl ?_
        refine jw_iload_n rfl rfl ?_
        refine js_iast (k) rfl (mo_a hm3 8 rfl) (by decide) (by rfl)  rfl (by omega) (by decide) ?_
        refine jw_aload_n rfl rfl ?_
        refine jw_gr rfl g_M_62 (mo_sI hm3).1 (mo_r (mo_sI hm3) 9 rfl) ?_
        refine jw_iload_n rfl rfl ?_
        refine jw_aload_n rfl rfl ?_
        refine jw_gr rfl g_M_62 (mo_sI hm3).1 (mo_r (mo_sI hm3) 9 rfl) ?_
        refine js_iconst (x := 4) rfl rfl ?_
        refine js_iald (4) rfl (mo_a (mo_sI hm3) 9 rfl) (by decide) (by rfl)  rfl (by decide) (by decide) ?_
        rw [show jh_I (jh_sI h3 (ar 527) k (nI n0)) (ar 528) 4 = nI i from (jh_u_a _ _ _ _ (mo_ne hm 9 8 rfl rfl (by decide))).trans e4]
        refine js_iast (k) rfl (mo_a (mo_sI hm3) 9 rfl) (by decide) (by rfl)  rfl (by omega) (by decide) ?_
        refine jw_aload_n rfl rfl ?_
        refine jw_gr rfl g_M_65 (mo_sI (mo_sI hm3)).1 (mo_r (mo_sI (mo_sI hm3)) 10 rfl) ?_
        refine jw_iload_n rfl rfl ?_
        refine js_iconst (x := 1) rfl rfl ?_
        refine js_zast (k) rfl (mo_a (mo_sI (mo_sI hm3)) 10 rfl) (by decide) (by rfl)  rfl (by omega) (by decide) (Or.inr rfl) ?_
        refine jw_aload_n rfl rfl ?_
        refine jw_aload_n rfl rfl ?_
        refine jw_gr rfl g_M_62 (mo_sI (mo_sI (mo_sI hm3))).1 (mo_r (mo_sI (mo_sI (mo_sI hm3))) 9 rfl) ?_
        refine jw_iload_n rfl rfl ?_
        refine js_iald (k) rfl (mo_a (mo_sI (mo_sI (mo_sI hm3))) 9 rfl) (by decide) (by rfl)  rfl (by omega) (by decide) ?_
        rw [show jh_I (jh_sI (jh_sI (jh_sI h3 (ar 527) k (nI n0)) (ar 528) k (nI i)) (ar 529) k 1) (ar 528) k = nI i from (jh_u_a _ _ _ _ (mo_ne hm 9 10 rfl rfl (by decide))).trans (jh_u_s _ _ _ _)]
        refine js_call (As := [.inl (nI i)]) rfl l_M_fine c_M_162 i_M_fine s_M_fine jc_o8 rfl ((mo_sI (mo_sI (mo_sI hm3))).1) rfl (cm_fine hg (mo_sI (mo_sI (mo_sI hm3))).1 ?_) (by decide) (Nat.le_of_ble_eq_true rfl) (by omega) (by omega) rfl
        refine jw_ireturn rfl rfl rfl ?_
        exact q2 _ f3 x3 m3 ((jh_u_a _ _ _ _ (mo_ne hm 8 10 rfl rfl (by decide))).trans ((jh_u_a _ _ _ _ (mo_ne hm 8 9 rfl rfl (by decide))).trans (jh_u_s _ _ _ _))) ((jh_u_a _ _ _ _ (mo_ne hm 9 10 rfl rfl (by decide))).trans (jh_u_s _ _ _ _)) (jh_u_s _ _ _ _)
      | succ m ih =>
        intro i h3 hi hfr3 htx3 hmt3 six
        have hm3 : mo_ok h3 mo ar := mo_fr.ok hfr3 hm2
        have e4 : jh_I h3 (ar 528) 4 = nI n := by
          rw [mo_fr.rd hm2 hfr3 9 rfl (fun key hk => ⟨fun e => by subst e; rcases hk with hk | hk | hk <;> omega, cp_F_in hk⟩)]; exact htg2
        have b1 := hB i (by omega)
        have o1 := hol i (by omega)
        have r1 := hmt2 i (by omega)
        have rd : ∀ (x : Nat) {K tt nn : Nat}, mo_T[x]? = some (K, tt, nn) → 530 ≤ K → K ≤ 536 → jh_I h3 (ar K) (200 + i) = jh_I h2 (ar K) (200 + i) := fun x K tt nn hx h1 h2 => mo_fr.rd hm2 hfr3 x hx (fun key hk => ⟨fun e => by subst e; rcases hk with hk | hk | hk <;> omega, cp_F_in hk⟩)
        refine jw_iload rfl rfl ?_
        refine js_sipush (x := 200) rfl rfl ?_
        refine jw_aload_n rfl rfl ?_
        refine jw_gr rfl g_M_62 hm3.1 (mo_r hm3 9 rfl) ?_
        refine js_iconst (x := 4) rfl rfl ?_
        refine js_iald (4) rfl (mo_a hm3 9 rfl) (by decide) (by rfl)  rfl (by decide) (by decide) ?_
        rw [e4]
        refine jw_iadd rfl ?_
        rw [show (200 : Int32) + nI n = nI (200 + n) from nI_add 200 n]
        refine jw_icmp_ge 256 rfl rfl (fun z => absurd ((nI_leI (by omega) (by omega)).mp z) (by omega)) (fun _ => ?_)
        refine jw_iload rfl rfl ?_
        refine jw_iload rfl rfl ?_
        refine jw_iadd rfl ?_
        rw [nI_mv2 (by omega), show 200 + i + k * 50 - 200 = k * 50 + i by omega]
        refine js_istore rfl rfl (by decide) rfl ?_
        refine jw_aload_n rfl rfl ?_
        refine jw_gr rfl g_M_68 hm3.1 (mo_r hm3 11 rfl) ?_
        refine jw_iload rfl rfl ?_
        refine jw_aload_n rfl rfl ?_
        refine jw_gr rfl g_M_68 hm3.1 (mo_r hm3 11 rfl) ?_
        refine jw_iload rfl rfl ?_
        refine js_iald (200 + i) rfl (mo_a hm3 11 rfl) (by decide) (by rfl)  rfl (by omega) (by decide) ?_
        rw [show jh_I h3 (ar 530) (200 + i) = nI (T i).1 from (rd 11 rfl (by decide) (by decide)).trans r1.1]
        refine jw_iload_n rfl rfl ?_
        refine jw_iadd rfl ?_
        rw [nI_mv (by have := b1.1; omega)]
        refine js_iast (k * 50 + i) rfl (mo_a hm3 11 rfl) (by decide) (by rfl)  rfl (by omega) (by decide) ?_
        refine jw_aload_n rfl rfl ?_
        refine jw_gr rfl g_M_71 (mo_sI hm3).1 (mo_r (mo_sI hm3) 12 rfl) ?_
        refine jw_iload rfl rfl ?_
        refine jw_aload_n rfl rfl ?_
        refine jw_gr rfl g_M_71 (mo_sI hm3).1 (mo_r (mo_sI hm3) 12 rfl) ?_
        refine jw_iload rfl rfl ?_
        refine js_iald (200 + i) rfl (mo_a (mo_sI hm3) 12 rfl) (by decide) (by rfl)  rfl (by omega) (by decide) ?_
        rw [show jh_I (jh_sI h3 (ar 530) (k * 50 + i) (nI ((T i).1 + k * 200 - 800))) (ar 531) (200 + i) = nI (T i).2.2.2.1 from (((jh_u_a _ _ _ _ (mo_ne hm 12 11 rfl rfl (by decide)))).trans (rd 12 rfl (by decide) (by decide))).trans r1.2.2.2.1]
        refine jw_iload_n rfl rfl ?_
        refine jw_iadd rfl ?_
        rw [nI_mv (by have := (Nat.le_trans b1.1 (Nat.le_trans b1.2.1 (Nat.le_trans b1.2.2.1 b1.2.2.2.1))); omega)]
        refine js_iast (k * 50 + i) rfl (mo_a (mo_sI hm3) 12 rfl) (by decide) (by rfl)  rfl (by omega) (by decide) ?_
        refine jw_aload_n rfl rfl ?_
        refine jw_gr rfl g_M_74 (mo_sI (mo_sI hm3)).1 (mo_r (mo_sI (mo_sI hm3)) 13 rfl) ?_
        refine jw_iload rfl rfl ?_
        refine jw_aload_n rfl rfl ?_
        refine jw_gr rfl g_M_74 (mo_sI (mo_sI hm3)).1 (mo_r (mo_sI (mo_sI hm3)) 13 rfl) ?_
        refine jw_iload rfl rfl ?_
        refine js_iald (200 + i) rfl (mo_a (mo_sI (mo_sI hm3)) 13 rfl) (by decide) (by rfl)  rfl (by omega) (by decide) ?_
        rw [show jh_I (jh_sI (jh_sI h3 (ar 530) (k * 50 + i) (nI ((T i).1 + k * 200 - 800))) (ar 531) (k * 50 + i) (nI ((T i).2.2.2.1 + k * 200 - 800))) (ar 532) (200 + i) = nI (T i).2.1 from (((jh_u_a _ _ _ _ (mo_ne hm 13 12 rfl rfl (by decide)))).trans (((jh_u_a _ _ _ _ (mo_ne hm 13 11 rfl rfl (by decide)))).trans (rd 13 rfl (by decide) (by decide)))).trans r1.2.1]
        refine jw_iload_n rfl rfl ?_
        refine jw_iadd rfl ?_
        rw [nI_mv (by have := (Nat.le_trans b1.1 b1.2.1); omega)]
        refine js_iast (k * 50 + i) rfl (mo_a (mo_sI (mo_sI hm3)) 13 rfl) (by decide) (by rfl)  rfl (by omega) (by decide) ?_
        refine jw_aload_n rfl rfl ?_
        refine jw_gr rfl g_M_77 (mo_sI (mo_sI (mo_sI hm3))).1 (mo_r (mo_sI (mo_sI (mo_sI hm3))) 14 rfl) ?_
        refine jw_iload rfl rfl ?_
        refine jw_aload_n rfl rfl ?_
        refine jw_gr rfl g_M_77 (mo_sI (mo_sI (mo_sI hm3))).1 (mo_r (mo_sI (mo_sI (mo_sI hm3))) 14 rfl) ?_
        refine jw_iload rfl rfl ?_
        refine js_iald (200 + i) rfl (mo_a (mo_sI (mo_sI (mo_sI hm3))) 14 rfl) (by decide) (by rfl)  rfl (by omega) (by decide) ?_
        rw [show jh_I (jh_sI (jh_sI (jh_sI h3 (ar 530) (k * 50 + i) (nI ((T i).1 + k * 200 - 800))) (ar 531) (k * 50 + i) (nI ((T i).2.2.2.1 + k * 200 - 800))) (ar 532) (k * 50 + i) (nI ((T i).2.1 + k * 200 - 800))) (ar 533) (200 + i) = nI (T i).2.2.1 from (((jh_u_a _ _ _ _ (mo_ne hm 14 13 rfl rfl (by decide)))).trans (((jh_u_a _ _ _ _ (mo_ne hm 14 12 rfl rfl (by decide)))).trans (((jh_u_a _ _ _ _ (mo_ne hm 14 11 rfl rfl (by decide)))).trans (rd 14 rfl (by decide) (by decide))))).trans r1.2.2.1]
        refine jw_iload_n rfl rfl ?_
        refine jw_iadd rfl ?_
        rw [nI_mv (by have := (Nat.le_trans b1.1 (Nat.le_trans b1.2.1 b1.2.2.1)); omega)]
        refine js_iast (k * 50 + i) rfl (mo_a (mo_sI (mo_sI (mo_sI hm3))) 14 rfl) (by decide) (by rfl)  rfl (by omega) (by decide) ?_
        refine jw_aload_n rfl rfl ?_
        refine jw_gr rfl g_M_80 (mo_sI (mo_sI (mo_sI (mo_sI hm3)))).1 (mo_r (mo_sI (mo_sI (mo_sI (mo_sI hm3)))) 15 rfl) ?_
        refine jw_iload rfl rfl ?_
        refine jw_aload_n rfl rfl ?_
        refine jw_gr rfl g_M_80 (mo_sI (mo_sI (mo_sI (mo_sI hm3)))).1 (mo_r (mo_sI (mo_sI (mo_sI (mo_sI hm3)))) 15 rfl) ?_
        refine jw_iload rfl rfl ?_
        refine js_iald (200 + i) rfl (mo_a (mo_sI (mo_sI (mo_sI (mo_sI hm3)))) 15 rfl) (by decide) (by rfl)  rfl (by omega) (by decide) ?_
        rw [show jh_I (jh_sI (jh_sI (jh_sI (jh_sI h3 (ar 530) (k * 50 + i) (nI ((T i).1 + k * 200 - 800))) (ar 531) (k * 50 + i) (nI ((T i).2.2.2.1 + k * 200 - 800))) (ar 532) (k * 50 + i) (nI ((T i).2.1 + k * 200 - 800))) (ar 533) (k * 50 + i) (nI ((T i).2.2.1 + k * 200 - 800))) (ar 534) (200 + i) = nI (T i).2.2.2.2 from (((jh_u_a _ _ _ _ (mo_ne hm 15 14 rfl rfl (by decide)))).trans (((jh_u_a _ _ _ _ (mo_ne hm 15 13 rfl rfl (by decide)))).trans (((jh_u_a _ _ _ _ (mo_ne hm 15 12 rfl rfl (by decide)))).trans (((jh_u_a _ _ _ _ (mo_ne hm 15 11 rfl rfl (by decide)))).trans (rd 15 rfl (by decide) (by decide)))))).trans r1.2.2.2.2.1]
        refine js_iast (k * 50 + i) rfl (mo_a (mo_sI (mo_sI (mo_sI (mo_sI hm3)))) 15 rfl) (by decide) (by rfl)  rfl (by omega) (by decide) ?_
        refine jw_aload_n rfl rfl ?_
        refine jw_gr rfl g_M_83 (mo_sI (mo_sI (mo_sI (mo_sI (mo_sI hm3))))).1 (mo_r (mo_sI (mo_sI (mo_sI (mo_sI (mo_sI hm3))))) 16 rfl) ?_
        refine jw_iload rfl rfl ?_
        refine jw_aload_n rfl rfl ?_
        refine jw_aload_n rfl rfl ?_
        refine jw_gr rfl g_M_83 (mo_sI (mo_sI (mo_sI (mo_sI (mo_sI hm3))))).1 (mo_r (mo_sI (mo_sI (mo_sI (mo_sI (mo_sI hm3))))) 16 rfl) ?_
        refine jw_iload rfl rfl ?_
        refine js_iald (200 + i) rfl (mo_a (mo_sI (mo_sI (mo_sI (mo_sI (mo_sI hm3))))) 16 rfl) (by decide) (by rfl)  rfl (by omega) (by decide) ?_
        rw [show jh_I (jh_sI (jh_sI (jh_sI (jh_sI (jh_sI h3 (ar 530) (k * 50 + i) (nI ((T i).1 + k * 200 - 800))) (ar 531) (k * 50 + i) (nI ((T i).2.2.2.1 + k * 200 - 800))) (ar 532) (k * 50 + i) (nI ((T i).2.1 + k * 200 - 800))) (ar 533) (k * 50 + i) (nI ((T i).2.2.1 + k * 200 - 800))) (ar 534) (k * 50 + i) (nI (T i).2.2.2.2)) (ar 535) (200 + i) = mt_o 200 (ot i) from (((jh_u_a _ _ _ _ (mo_ne hm 16 15 rfl rfl (by decide)))).trans (((jh_u_a _ _ _ _ (mo_ne hm 16 14 rfl rfl (by decide)))).trans (((jh_u_a _ _ _ _ (mo_ne hm 16 13 rfl rfl (by decide)))).trans (((jh_u_a _ _ _ _ (mo_ne hm 16 12 rfl rfl (by decide)))).trans (((jh_u_a _ _ _ _ (mo_ne hm 16 11 rfl rfl (by decide)))).trans (rd 16 rfl (by decide) (by decide))))))).trans r1.2.2.2.2.2.1]
        refine jw_iload rfl rfl ?_
        refine js_call (As := [.inl (mt_o 200 (ot i)), .inl (nI (k * 50) - 200)]) rfl l_M_moved c_M_279 i_M_moved s_M_moved jc_o8 rfl ((mo_sI (mo_sI (mo_sI (mo_sI (mo_sI hm3))))).1) rfl (cm_moved hg ?_) (by decide) (Nat.le_of_ble_eq_true rfl) (by omega) (by omega) rfl
        rw [mt_mv o1.1 hk]
        refine js_iast (k * 50 + i) rfl (mo_a (mo_sI (mo_sI (mo_sI (mo_sI (mo_sI hm3))))) 16 rfl) (by decide) (by rfl)  rfl (by omega) (by decide) ?_
        refine jw_aload_n rfl rfl ?_
        refine jw_gr rfl g_M_86 (mo_sI (mo_sI (mo_sI (mo_sI (mo_sI (mo_sI hm3)))))).1 (mo_r (mo_sI (mo_sI (mo_sI (mo_sI (mo_sI (mo_sI hm3)))))) 17 rfl) ?_
        refine jw_iload rfl rfl ?_
        refine jw_aload_n rfl rfl ?_
        refine jw_aload_n rfl rfl ?_
        refine jw_gr rfl g_M_86 (mo_sI (mo_sI (mo_sI (mo_sI (mo_sI (mo_sI hm3)))))).1 (mo_r (mo_sI (mo_sI (mo_sI (mo_sI (mo_sI (mo_sI hm3)))))) 17 rfl) ?_
        refine jw_iload rfl rfl ?_
        refine js_iald (200 + i) rfl (mo_a (mo_sI (mo_sI (mo_sI (mo_sI (mo_sI (mo_sI hm3)))))) 17 rfl) (by decide) (by rfl)  rfl (by omega) (by decide) ?_
        rw [show jh_I (jh_sI (jh_sI (jh_sI (jh_sI (jh_sI (jh_sI h3 (ar 530) (k * 50 + i) (nI ((T i).1 + k * 200 - 800))) (ar 531) (k * 50 + i) (nI ((T i).2.2.2.1 + k * 200 - 800))) (ar 532) (k * 50 + i) (nI ((T i).2.1 + k * 200 - 800))) (ar 533) (k * 50 + i) (nI ((T i).2.2.1 + k * 200 - 800))) (ar 534) (k * 50 + i) (nI (T i).2.2.2.2)) (ar 535) (k * 50 + i) (mt_o (k * 50) (ot i))) (ar 536) (200 + i) = mt_o 200 (la i) from (((jh_u_a _ _ _ _ (mo_ne hm 17 16 rfl rfl (by decide)))).trans (((jh_u_a _ _ _ _ (mo_ne hm 17 15 rfl rfl (by decide)))).trans (((jh_u_a _ _ _ _ (mo_ne hm 17 14 rfl rfl (by decide)))).trans (((jh_u_a _ _ _ _ (mo_ne hm 17 13 rfl rfl (by decide)))).trans (((jh_u_a _ _ _ _ (mo_ne hm 17 12 rfl rfl (by decide)))).trans (((jh_u_a _ _ _ _ (mo_ne hm 17 11 rfl rfl (by decide)))).trans (rd 17 rfl (by decide) (by decide)))))))).trans r1.2.2.2.2.2.2]
        refine jw_iload rfl rfl ?_
        refine js_call (As := [.inl (mt_o 200 (la i)), .inl (nI (k * 50) - 200)]) rfl l_M_moved c_M_279 i_M_moved s_M_moved jc_o8 rfl ((mo_sI (mo_sI (mo_sI (mo_sI (mo_sI (mo_sI hm3)))))).1) rfl (cm_moved hg ?_) (by decide) (Nat.le_of_ble_eq_true rfl) (by omega) (by omega) rfl
        rw [mt_mv o1.2 hk]
        refine js_iast (k * 50 + i) rfl (mo_a (mo_sI (mo_sI (mo_sI (mo_sI (mo_sI (mo_sI hm3)))))) 17 rfl) (by decide) (by rfl)  rfl (by omega) (by decide) ?_
        refine js_iinc rfl rfl (nI_1 (200 + i)) rfl (by decide) rfl ?_
        refine jw_goto 110 rfl rfl ?_
        rw [show 200 + i + 1 = 200 + (i + 1) by omega]
        refine ih (i + 1) _ (by omega) (mo_fr.sI (mo_fr.sI (mo_fr.sI (mo_fr.sI (mo_fr.sI (mo_fr.sI (mo_fr.sI hfr3 (Or.inr (Or.inl ⟨by decide, by decide, by omega, by omega⟩))) (Or.inr (Or.inl ⟨by decide, by decide, by omega, by omega⟩))) (Or.inr (Or.inl ⟨by decide, by decide, by omega, by omega⟩))) (Or.inr (Or.inl ⟨by decide, by decide, by omega, by omega⟩))) (Or.inr (Or.inl ⟨by decide, by decide, by omega, by omega⟩))) (Or.inr (Or.inl ⟨by decide, by decide, by omega, by omega⟩))) (Or.inr (Or.inl ⟨by decide, by decide, by omega, by omega⟩))) (mo_tx_s hm (mo_tx_s hm (mo_tx_s hm (mo_tx_s hm (mo_tx_s hm (mo_tx_s hm (mo_tx_s hm htx3 11 rfl (by decide) _ _) 12 rfl (by decide) _ _) 13 rfl (by decide) _ _) 14 rfl (by decide) _ _) 15 rfl (by decide) _ _) 16 rfl (by decide) _ _) 17 rfl (by decide) _ _) (fun j hj => ?_) _
        by_cases z : j = i
        · subst z
          exact ⟨((jh_u_a _ _ _ _ (mo_ne hm 11 17 rfl rfl (by decide))).trans ((jh_u_a _ _ _ _ (mo_ne hm 11 16 rfl rfl (by decide))).trans ((jh_u_a _ _ _ _ (mo_ne hm 11 15 rfl rfl (by decide))).trans ((jh_u_a _ _ _ _ (mo_ne hm 11 14 rfl rfl (by decide))).trans ((jh_u_a _ _ _ _ (mo_ne hm 11 13 rfl rfl (by decide))).trans ((jh_u_a _ _ _ _ (mo_ne hm 11 12 rfl rfl (by decide))).trans (jh_u_s _ _ _ _))))))), ((jh_u_a _ _ _ _ (mo_ne hm 13 17 rfl rfl (by decide))).trans ((jh_u_a _ _ _ _ (mo_ne hm 13 16 rfl rfl (by decide))).trans ((jh_u_a _ _ _ _ (mo_ne hm 13 15 rfl rfl (by decide))).trans ((jh_u_a _ _ _ _ (mo_ne hm 13 14 rfl rfl (by decide))).trans (jh_u_s _ _ _ _))))), ((jh_u_a _ _ _ _ (mo_ne hm 14 17 rfl rfl (by decide))).trans ((jh_u_a _ _ _ _ (mo_ne hm 14 16 rfl rfl (by decide))).trans ((jh_u_a _ _ _ _ (mo_ne hm 14 15 rfl rfl (by decide))).trans (jh_u_s _ _ _ _)))), ((jh_u_a _ _ _ _ (mo_ne hm 12 17 rfl rfl (by decide))).trans ((jh_u_a _ _ _ _ (mo_ne hm 12 16 rfl rfl (by decide))).trans ((jh_u_a _ _ _ _ (mo_ne hm 12 15 rfl rfl (by decide))).trans ((jh_u_a _ _ _ _ (mo_ne hm 12 14 rfl rfl (by decide))).trans ((jh_u_a _ _ _ _ (mo_ne hm 12 13 rfl rfl (by decide))).trans (jh_u_s _ _ _ _)))))), ((jh_u_a _ _ _ _ (mo_ne hm 15 17 rfl rfl (by decide))).trans ((jh_u_a _ _ _ _ (mo_ne hm 15 16 rfl rfl (by decide))).trans (jh_u_s _ _ _ _))), ((jh_u_a _ _ _ _ (mo_ne hm 16 17 rfl rfl (by decide))).trans (jh_u_s _ _ _ _)), (jh_u_s _ _ _ _)⟩
        · have m1 := hmt3 j (by omega)
          exact ⟨((jh_u_a _ _ _ _ (mo_ne hm 11 17 rfl rfl (by decide))).trans ((jh_u_a _ _ _ _ (mo_ne hm 11 16 rfl rfl (by decide))).trans ((jh_u_a _ _ _ _ (mo_ne hm 11 15 rfl rfl (by decide))).trans ((jh_u_a _ _ _ _ (mo_ne hm 11 14 rfl rfl (by decide))).trans ((jh_u_a _ _ _ _ (mo_ne hm 11 13 rfl rfl (by decide))).trans ((jh_u_a _ _ _ _ (mo_ne hm 11 12 rfl rfl (by decide))).trans ((jh_u_k _ _ _ _ (by omega)).trans m1.1))))))), ((jh_u_a _ _ _ _ (mo_ne hm 13 17 rfl rfl (by decide))).trans ((jh_u_a _ _ _ _ (mo_ne hm 13 16 rfl rfl (by decide))).trans ((jh_u_a _ _ _ _ (mo_ne hm 13 15 rfl rfl (by decide))).trans ((jh_u_a _ _ _ _ (mo_ne hm 13 14 rfl rfl (by decide))).trans ((jh_u_k _ _ _ _ (by omega)).trans ((jh_u_a _ _ _ _ (mo_ne hm 13 12 rfl rfl (by decide))).trans ((jh_u_a _ _ _ _ (mo_ne hm 13 11 rfl rfl (by decide))).trans m1.2.1))))))), ((jh_u_a _ _ _ _ (mo_ne hm 14 17 rfl rfl (by decide))).trans ((jh_u_a _ _ _ _ (mo_ne hm 14 16 rfl rfl (by decide))).trans ((jh_u_a _ _ _ _ (mo_ne hm 14 15 rfl rfl (by decide))).trans ((jh_u_k _ _ _ _ (by omega)).trans ((jh_u_a _ _ _ _ (mo_ne hm 14 13 rfl rfl (by decide))).trans ((jh_u_a _ _ _ _ (mo_ne hm 14 12 rfl rfl (by decide))).trans ((jh_u_a _ _ _ _ (mo_ne hm 14 11 rfl rfl (by decide))).trans m1.2.2.1))))))), ((jh_u_a _ _ _ _ (mo_ne hm 12 17 rfl rfl (by decide))).trans ((jh_u_a _ _ _ _ (mo_ne hm 12 16 rfl rfl (by decide))).trans ((jh_u_a _ _ _ _ (mo_ne hm 12 15 rfl rfl (by decide))).trans ((jh_u_a _ _ _ _ (mo_ne hm 12 14 rfl rfl (by decide))).trans ((jh_u_a _ _ _ _ (mo_ne hm 12 13 rfl rfl (by decide))).trans ((jh_u_k _ _ _ _ (by omega)).trans ((jh_u_a _ _ _ _ (mo_ne hm 12 11 rfl rfl (by decide))).trans m1.2.2.2.1))))))), ((jh_u_a _ _ _ _ (mo_ne hm 15 17 rfl rfl (by decide))).trans ((jh_u_a _ _ _ _ (mo_ne hm 15 16 rfl rfl (by decide))).trans ((jh_u_k _ _ _ _ (by omega)).trans ((jh_u_a _ _ _ _ (mo_ne hm 15 14 rfl rfl (by decide))).trans ((jh_u_a _ _ _ _ (mo_ne hm 15 13 rfl rfl (by decide))).trans ((jh_u_a _ _ _ _ (mo_ne hm 15 12 rfl rfl (by decide))).trans ((jh_u_a _ _ _ _ (mo_ne hm 15 11 rfl rfl (by decide))).trans m1.2.2.2.2.1))))))), ((jh_u_a _ _ _ _ (mo_ne hm 16 17 rfl rfl (by decide))).trans ((jh_u_k _ _ _ _ (by omega)).trans ((jh_u_a _ _ _ _ (mo_ne hm 16 15 rfl rfl (by decide))).trans ((jh_u_a _ _ _ _ (mo_ne hm 16 14 rfl rfl (by decide))).trans ((jh_u_a _ _ _ _ (mo_ne hm 16 13 rfl rfl (by decide))).trans ((jh_u_a _ _ _ _ (mo_ne hm 16 12 rfl rfl (by decide))).trans ((jh_u_a _ _ _ _ (mo_ne hm 16 11 rfl rfl (by decide))).trans m1.2.2.2.2.2.1))))))), ((jh_u_k _ _ _ _ (by omega)).trans ((jh_u_a _ _ _ _ (mo_ne hm 17 16 rfl rfl (by decide))).trans ((jh_u_a _ _ _ _ (mo_ne hm 17 15 rfl rfl (by decide))).trans ((jh_u_a _ _ _ _ (mo_ne hm 17 14 rfl rfl (by decide))).trans ((jh_u_a _ _ _ _ (mo_ne hm 17 13 rfl rfl (by decide))).trans ((jh_u_a _ _ _ _ (mo_ne hm 17 12 rfl rfl (by decide))).trans ((jh_u_a _ _ _ _ (mo_ne hm 17 11 rfl rfl (by decide))).trans m1.2.2.2.2.2.2)))))))⟩
    have copyl : ∀ m i h3, i + m = n0 → mo_fr h2 h3 ar (cp_F k) → mo_tx h3 ar (fun j => if k * 200 ≤ j ∧ j < k * 200 + i then t (800 + (j - k * 200)) else t j) → jw_J g 9 m_M_compile jw_T0 69 [some (.inr (.inr (some mo))), some (.inl (nI k)), some (.inl (nI n0)), some (.inl (nI (k * 200) - 800)), some (.inl (nI (k * 50) - 200)), some (.inl (nI i)), none] [] h3 0 0 Q := by
      intro m
      induction m with
      | zero =>
        intro i h3 hi hfr3 htx3
        have ei : i = n0 := by omega
        subst ei
        refine jw_iload rfl rfl ?_
        refine jw_iload_n rfl rfl ?_
        refine jw_icmp_ge 105 rfl rfl (fun _ => ?_) (fun z => absurd ((nI_leI (by omega) (by omega)).mpr (by omega)) z)
        refine js_sipush (x := 200) rfl rfl ?_
        refine js_istore rfl rfl (by decide) rfl ?_
        exact tagl n 0 h3 (by omega) hfr3 htx3 (fun j hj => absurd hj (by omega)) _
      | succ m ih =>
        intro i h3 hi hfr3 htx3
        have hm3 : mo_ok h3 mo ar := mo_fr.ok hfr3 hm2
        have et := htx3 (800 + i) (by omega)
        simp only [if_neg (show ¬ (k * 200 ≤ 800 + i ∧ 800 + i < k * 200 + i) by omega)] at et
        refine jw_iload rfl rfl ?_
        refine jw_iload_n rfl rfl ?_
        refine jw_icmp_ge 105 rfl rfl (fun z => absurd ((nI_leI (by omega) (by omega)).mp z) (by omega)) (fun _ => ?_)
        refine jw_aload_n rfl rfl ?_
        refine jw_gr rfl g_M_56 hm3.1 (mo_r hm3 7 rfl) ?_
        refine jw_iload_n rfl rfl ?_
        refine js_sipush (x := 200) rfl rfl ?_
        refine jw_imul rfl ?_
        refine jw_iload rfl rfl ?_
        rw [show nI k * 200 = nI (k * 200) from pk_mul k 200]
        refine jw_iadd rfl ?_
        rw [nI_add]
        refine jw_aload_n rfl rfl ?_
        refine jw_gr rfl g_M_56 hm3.1 (mo_r hm3 7 rfl) ?_
        refine js_sipush (x := 800) rfl rfl ?_
        refine jw_iload rfl rfl ?_
        refine jw_iadd rfl ?_
        rw [show (800 : Int32) + nI i = nI (800 + i) from nI_add 800 i]
        refine js_cald (800 + i) rfl (mo_a hm3 7 rfl) (by decide) (by rfl)  rfl (by omega) (by decide) ?_
        rw [et.1]
        refine js_cast (k * 200 + i) rfl (mo_a hm3 7 rfl) (by decide) (by rfl)  rfl (by omega) (by decide) ?_
        refine js_iinc rfl rfl (nI_1 i) rfl (by decide) rfl ?_
        refine jw_goto 69 rfl rfl ?_
        have hnar : vp_nar .char (nI (t (800 + i))) = nI (t (800 + i)) := by simp only [vp_nar, (pk_charN (q := t (800 + i)) (by omega)).1]
        rw [hnar]
        refine ih (i + 1) _ (by omega) (mo_fr.sI hfr3 (Or.inl ⟨rfl, by omega, by omega⟩)) (fun x hx => ?_)
        have hx3 := htx3 x hx
        dsimp only at hx3 ⊢
        by_cases z : x = k * 200 + i
        · rw [if_pos (by omega), show 800 + (x - k * 200) = 800 + i by omega, z]
          exact ⟨jh_u_s _ _ _ _, et.2⟩
        · have e1 : (if k * 200 ≤ x ∧ x < k * 200 + (i + 1) then t (800 + (x - k * 200)) else t x) = (if k * 200 ≤ x ∧ x < k * 200 + i then t (800 + (x - k * 200)) else t x) := by
            by_cases z2 : k * 200 ≤ x ∧ x < k * 200 + i
            · rw [if_pos z2, if_pos (by omega)]
            · rw [if_neg z2, if_neg (by omega)]
          rw [e1]
          exact ⟨(jh_u_k _ _ _ _ z).trans hx3.1, hx3.2⟩
    exact copyl n0 0 h2 (by omega) mo_fr.rf (fun x hx => by dsimp only; rw [if_neg (by omega)]; exact htx2 x hx)
end
section
/-! the model: what may have changed (cells of rows, numbers of its own); texts shown raw -/
def mo_fx (h h' : jh_H) (mo : Nat) (ar : Nat → Nat) (F : Nat → Nat → Prop) (G : Nat → Prop) : Prop := jh_L h' = jh_L h ∧ jh_K h' = jh_K h ∧ jh_g h' = jh_g h ∧ jh_r h' = jh_r h ∧ jh_G h' = jh_G h ∧ jh_R h' = jh_R h ∧ (∀ b k, (b = mo → ¬ G k) → jh_i h' b k = jh_i h b k) ∧ ∀ b j, (∀ k, F k j → b ≠ ar k) → jh_I h' b j = jh_I h b j
theorem mo_fx.rf {h : jh_H} {mo : Nat} {ar : Nat → Nat} {F : Nat → Nat → Prop} {G : Nat → Prop} : mo_fx h h mo ar F G := ⟨rfl, rfl, rfl, rfl, rfl, rfl, fun _ _ _ => rfl, fun _ _ _ => rfl⟩
theorem mo_fx.tr {h h1 h2 : jh_H} {mo : Nat} {ar : Nat → Nat} {F F' : Nat → Nat → Prop} {G G' : Nat → Prop} (a : mo_fx h h1 mo ar F G) (b : mo_fx h1 h2 mo ar F' G') (hF : ∀ k j, F' k j → F k j) (hG : ∀ k, G' k → G k) : mo_fx h h2 mo ar F G := by
  obtain ⟨a1, a2, a3, a4, a5, a6, a7, a8⟩ := a
  obtain ⟨b1, b2, b3, b4, b5, b6, b7, b8⟩ := b
  exact ⟨b1.trans a1, b2.trans a2, b3.trans a3, b4.trans a4, b5.trans a5, b6.trans a6, fun x k hk => (b7 x k (fun e z => hk e (hG k z))).trans (a7 x k hk), fun x j hj => (b8 x j (fun k z => hj k (hF k j z))).trans (a8 x j hj)⟩
theorem mo_fx.mono {h h1 : jh_H} {mo : Nat} {ar : Nat → Nat} {F F' : Nat → Nat → Prop} {G G' : Nat → Prop} (a : mo_fx h h1 mo ar F' G') (hF : ∀ k j, F' k j → F k j) (hG : ∀ k, G' k → G k) : mo_fx h h1 mo ar F G := mo_fx.tr mo_fx.rf a hF hG
theorem mo_fx.sI {h h' : jh_H} {mo : Nat} {ar : Nat → Nat} {F : Nat → Nat → Prop} {G : Nat → Prop} (hf : mo_fx h h' mo ar F G) {k j : Nat} {v : Int32} (hk : F k j) : mo_fx h (jh_sI h' (ar k) j v) mo ar F G := by
  obtain ⟨h1, h2, h3, h4, h5, h6, h7, h8⟩ := hf
  refine ⟨h1, h2, h3, h4, h5, h6, h7, fun b i hb => ?_⟩
  rw [← h8 b i hb]
  show jh_u (jh_I h') (ar k) j v b i = jh_I h' b i
  by_cases q : b = ar k
  · by_cases q2 : i = j
    · subst q2; exact absurd q (hb k hk)
    · exact jh_u_k _ _ _ _ q2
  · exact jh_u_a _ _ _ _ q
theorem mo_fx.si {h h' : jh_H} {mo : Nat} {ar : Nat → Nat} {F : Nat → Nat → Prop} {G : Nat → Prop} (hf : mo_fx h h' mo ar F G) {k : Nat} {v : Int32} (hk : G k) : mo_fx h (jh_si h' mo k v) mo ar F G := by
  obtain ⟨h1, h2, h3, h4, h5, h6, h7, h8⟩ := hf
  refine ⟨h1, h2, h3, h4, h5, h6, fun b i hb => ?_, h8⟩
  rw [← h7 b i hb]
  show jh_u (jh_i h') mo k v b i = jh_i h' b i
  by_cases q : b = mo
  · by_cases q2 : i = k
    · subst q2; exact absurd hk (hb q)
    · exact jh_u_k _ _ _ _ q2
  · exact jh_u_a _ _ _ _ q
theorem mo_fx.ok {h h' : jh_H} {mo : Nat} {ar : Nat → Nat} {F : Nat → Nat → Prop} {G : Nat → Prop} (hf : mo_fx h h' mo ar F G) (hm : mo_ok h mo ar) : mo_ok h' mo ar := by
  obtain ⟨h1, h2, h3, h4, h5, h6, h7, h8⟩ := hf
  refine ⟨⟨by rw [h1]; exact hm.1.1, by rw [h2]; exact hm.1.2⟩, fun x hx => ⟨by rw [h4]; exact (hm.2.1 x hx).1, ?_⟩, hm.2.2⟩
  have := (hm.2.1 x hx).2
  exact ⟨by rw [h1]; exact this.1, by rw [h2]; exact this.2⟩
theorem mo_fx.rd {h h' h0 : jh_H} {mo : Nat} {ar : Nat → Nat} {F : Nat → Nat → Prop} {G : Nat → Prop} (hm : mo_ok h0 mo ar) (hf : mo_fx h h' mo ar F G) (i : Nat) {K t n j : Nat} (hi : mo_T[i]? = some (K, t, n)) (hF : ∀ k, F k j → k ≠ K ∧ ∃ x ∈ mo_T, x.1 = k) : jh_I h' (ar K) j = jh_I h (ar K) j := by
  refine hf.2.2.2.2.2.2.2 (ar K) j (fun k hk z => ?_)
  obtain ⟨h1, x, hx, rfl⟩ := hF k hk
  exact h1 (hm.2.2 x hx _ (List.mem_of_getElem? hi) z.symm)
theorem mo_fx.rdi {h h' : jh_H} {mo : Nat} {ar : Nat → Nat} {F : Nat → Nat → Prop} {G : Nat → Prop} (hf : mo_fx h h' mo ar F G) {k : Nat} (hk : ¬ G k) : jh_i h' mo k = jh_i h mo k := hf.2.2.2.2.2.2.1 mo k (fun _ => hk)
/-- the raw text X: its first 401 characters -/
def rw_ok (h : jh_H) (mo : Nat) (ar : Nat → Nat) (X : List Nat) : Prop := jh_i h mo 545 = nI (min X.length 401) ∧ ∀ j, j < min X.length 401 → jh_I h (ar 542) j = nI (X.getD j 0) ∧ X.getD j 0 < 128
def rp_F (k _j : Nat) : Prop := k = 542
def rp_G (k : Nat) : Prop := k = 545
theorem rw_put {h h' : jh_H} {mo : Nat} {ar : Nat → Nat} {X : List Nat} {c : Nat} (hc : c < 128) (hx : rw_ok h mo ar X) (hl : X.length < 401) (e1 : jh_i h' mo 545 = nI (X.length + 1)) (e2 : ∀ j, jh_I h' (ar 542) j = if j = X.length then nI c else jh_I h (ar 542) j) : rw_ok h' mo ar (X ++ [c]) := by
  refine ⟨by rw [e1, List.length_append]; congr 1; simp; omega, fun j hj => ?_⟩
  rw [List.length_append] at hj
  rw [e2 j]
  by_cases z : j = X.length
  · subst z; rw [if_pos rfl]; simp [hc]
  · rw [if_neg z]
    have hj2 : j < X.length := by simp at hj; omega
    have := hx.2 j (by omega)
    rw [show (X ++ [c]).getD j 0 = X.getD j 0 by simp [List.getD, List.getElem?_append_left hj2]]
    exact this
theorem rw_full {h : jh_H} {mo : Nat} {ar : Nat → Nat} {X : List Nat} {c : Nat} (hx : rw_ok h mo ar X) (hl : 401 ≤ X.length) : rw_ok h mo ar (X ++ [c]) := by
  have e : min (X ++ [c]).length 401 = min X.length 401 := by simp; omega
  refine ⟨by rw [e]; exact hx.1, fun j hj => ?_⟩
  rw [e] at hj
  have hj2 : j < X.length := by omega
  rw [show (X ++ [c]).getD j 0 = X.getD j 0 by simp [List.getD, List.getElem?_append_left hj2]]
  exact hx.2 j hj
set_option maxHeartbeats 4000000 in
set_option maxRecDepth 100000 in
theorem cm_rawPut {g : jg_G} (hg : (jg_l g).stackTraces = false) {h : jh_H} {mo : Nat} {ar : Nat → Nat} {X : List Nat} {c : Nat} {Q : jw_O → jh_H → Prop} (hm : mo_ok h mo ar) (hc : c < 128) (hx : rw_ok h mo ar X) (hq : ∀ h', mo_fx h h' mo ar rp_F rp_G → rw_ok h' mo ar (X ++ [c]) → Q (.inl none) h') : jw_C g 0 0 0 m_M_rawPut [.inr (.inr (some mo)), .inl (nI c)] h Q := by
  refine jw_intro (ls := [some (.inr (.inr (some mo))), some (.inl (nI c))]) (by decide) k_M_rawPut rfl (by simp [lo_fit, jv_c]) hg ?_
  have hc1 : ((nI c).toUInt32 % 65536).toInt32 = nI c := by
    have h1 := pk_char (nI c)
    rw [pk_tn (by omega), Nat.mod_eq_of_lt (by omega)] at h1
    exact h1
  have hn1 : vp_nar .char (nI c) = nI c := by simp only [vp_nar, (pk_charN (q := c) (by omega)).1]
  refine jw_aload_n rfl rfl ?_
  refine jw_gi rfl g_M_113 hm.1 hx.1 ?_
  refine js_sipush (x := 401) rfl rfl ?_
  rcases Nat.lt_or_ge X.length 401 with hl | hl
  · have e0 : min X.length 401 = X.length := by omega
    rw [e0]
    have h545 : jh_i h mo 545 = nI X.length := by rw [hx.1, e0]
    refine jw_icmp_ge 21 rfl rfl (fun z => absurd ((nI_leI (a := 401) (by omega) (by omega)).mp z) (by omega)) (fun _ => ?_)
    refine jw_aload_n rfl rfl ?_
    refine jw_gr rfl g_M_104 hm.1 (mo_r hm 23 rfl) ?_
    refine jw_aload_n rfl rfl ?_
    refine jw_gi rfl g_M_113 hm.1 h545 ?_
    refine jw_iload_n rfl rfl ?_
    refine jw_i2c rfl ?_
    rw [hc1]
    refine js_cast (X.length) rfl (mo_a hm 23 rfl) (by decide) (by rfl)  rfl (by omega) (by decide) ?_
    refine jw_aload_n rfl rfl ?_
    refine jw_gi rfl g_M_113 (mo_sI hm).1 h545 ?_
    refine js_sipush (x := 401) rfl rfl ?_
    rw [hn1]
    refine jw_icmp_ge 41 rfl rfl (fun z => absurd ((nI_leI (a := 401) (by omega) (by omega)).mp z) (by omega)) (fun _ => ?_)
    refine jw_aload_n rfl rfl ?_
    refine jw_dup rfl rfl ?_
    refine jw_gi rfl g_M_113 (mo_sI hm).1 h545 ?_
    refine js_iconst (x := 1) rfl rfl ?_
    refine jw_iadd rfl ?_
    rw [show nI X.length + 1 = nI (X.length + 1) from nI_1 _]
    refine jw_pi rfl p_M_rawPut_113 (mo_sI hm).1 ?_
    refine jw_return rfl rfl ?_
    refine hq _ (mo_fx.si (k := 545) (mo_fx.sI (k := 542) mo_fx.rf (show rp_F 542 _ from rfl)) (show rp_G 545 from rfl)) (rw_put hc hx hl (jh_u_s _ _ _ _) (fun j => ?_))
    show jh_u (jh_I h) (ar 542) X.length (nI c) (ar 542) j = _
    by_cases z : j = X.length
    · rw [if_pos z, z, jh_u_s]
    · rw [if_neg z, jh_u_k _ _ _ _ z]
  · have e0 : min X.length 401 = 401 := by omega
    rw [e0]
    have h545 : jh_i h mo 545 = nI 401 := by rw [hx.1, e0]
    refine jw_icmp_ge 21 rfl rfl (fun _ => ?_) (fun z => absurd (by decide) z)
    refine jw_aload_n rfl rfl ?_
    refine jw_gi rfl g_M_113 hm.1 h545 ?_
    refine js_sipush (x := 401) rfl rfl ?_
    refine jw_icmp_ge 41 rfl rfl (fun _ => ?_) (fun z => absurd (by decide) z)
    refine jw_return rfl rfl ?_
    exact hq _ mo_fx.rf (rw_full hx hl)
set_option maxHeartbeats 4000000 in
set_option maxRecDepth 100000 in
theorem cm_rawMap {g : jg_G} (hg : (jg_l g).stackTraces = false) {h : jh_H} {mo : Nat} {ar : Nat → Nat} {X : List Nat} {Q : jw_O → jh_H → Prop} (hm : mo_ok h mo ar) (hx : rw_ok h mo ar X) (hq : ∀ h', mo_fx h h' mo ar rp_F rp_G → rw_ok h' mo ar (X ++ [91, 109, 97, 112, 93]) → Q (.inl none) h') : jw_C g 1 0 0 m_M_rawMap [.inr (.inr (some mo))] h Q := by
  refine jw_intro (ls := [some (.inr (.inr (some mo)))]) (by decide) k_M_rawMap rfl (by simp [lo_fit, jv_c]) hg ?_
  refine jw_aload_n rfl rfl ?_
  refine js_bipush (x := 91) rfl rfl ?_
  refine js_call (As := [.inl 91]) rfl l_M_rawPut c_M_285 i_M_rawPut s_M_rawPut jc_o8 rfl hm.1 rfl (cm_rawPut hg hm (c := 91) (by decide) hx (fun h1 g1 x1 => ?_)) (by decide) (Nat.le_of_ble_eq_true rfl) (by omega) (by omega) rfl
  have f1 := g1
  refine jw_aload_n rfl rfl ?_
  refine js_bipush (x := 109) rfl rfl ?_
  refine js_call (As := [.inl 109]) rfl l_M_rawPut c_M_285 i_M_rawPut s_M_rawPut jc_o8 rfl (mo_fx.ok f1 hm).1 rfl (cm_rawPut hg (mo_fx.ok f1 hm) (c := 109) (by decide) x1 (fun h2 g2 x2 => ?_)) (by decide) (Nat.le_of_ble_eq_true rfl) (by omega) (by omega) rfl
  have f2 := mo_fx.tr f1 g2 (fun _ _ z => z) (fun _ z => z)
  refine jw_aload_n rfl rfl ?_
  refine js_bipush (x := 97) rfl rfl ?_
  refine js_call (As := [.inl 97]) rfl l_M_rawPut c_M_285 i_M_rawPut s_M_rawPut jc_o8 rfl (mo_fx.ok f2 hm).1 rfl (cm_rawPut hg (mo_fx.ok f2 hm) (c := 97) (by decide) x2 (fun h3 g3 x3 => ?_)) (by decide) (Nat.le_of_ble_eq_true rfl) (by omega) (by omega) rfl
  have f3 := mo_fx.tr f2 g3 (fun _ _ z => z) (fun _ z => z)
  refine jw_aload_n rfl rfl ?_
  refine js_bipush (x := 112) rfl rfl ?_
  refine js_call (As := [.inl 112]) rfl l_M_rawPut c_M_285 i_M_rawPut s_M_rawPut jc_o8 rfl (mo_fx.ok f3 hm).1 rfl (cm_rawPut hg (mo_fx.ok f3 hm) (c := 112) (by decide) x3 (fun h4 g4 x4 => ?_)) (by decide) (Nat.le_of_ble_eq_true rfl) (by omega) (by omega) rfl
  have f4 := mo_fx.tr f3 g4 (fun _ _ z => z) (fun _ z => z)
  refine jw_aload_n rfl rfl ?_
  refine js_bipush (x := 93) rfl rfl ?_
  refine js_call (As := [.inl 93]) rfl l_M_rawPut c_M_285 i_M_rawPut s_M_rawPut jc_o8 rfl (mo_fx.ok f4 hm).1 rfl (cm_rawPut hg (mo_fx.ok f4 hm) (c := 93) (by decide) x4 (fun h5 g5 x5 => ?_)) (by decide) (Nat.le_of_ble_eq_true rfl) (by omega) (by omega) rfl
  have f5 := mo_fx.tr f4 g5 (fun _ _ z => z) (fun _ z => z)
  refine jw_return rfl rfl ?_
  refine hq _ f5 ?_
  rw [show X ++ [91, 109, 97, 112, 93] = X ++ [91] ++ [109] ++ [97] ++ [112] ++ [93] by simp]
  exact x5
end
section
/-! numbers in decimal -/
def sd_m : Nat → Nat → Nat
  | 0, _ => 0
  | f + 1, a => if a < 10 then 0 else sd_m f (a / 10) + 1
def sd_u (a : Nat) : Nat → List Nat
  | 0 => [48 + a % 10]
  | m + 1 => (48 + a / 10 ^ (m + 1) % 10) :: sd_u a m
def sd_nat (a : Nat) : List Nat := sd_u a (sd_m 10 a)
def sd_abs (v : Int32) : Nat := if v < 0 then (-v.toInt).toNat else v.toInt.toNat
def sd_num (v : Int32) : List Nat := if v < 0 then 45 :: sd_nat (sd_abs v) else sd_nat (sd_abs v)
theorem sd_abs_le (v : Int32) : sd_abs v ≤ 2147483648 := by
  have h1 := Int32.le_toInt v
  have h2 := Int32.toInt_lt v
  rw [sd_abs]
  split <;> omega
theorem sd_abs_p {v : Int32} (h : ¬ v < 0) : v.toInt64 = lN (sd_abs v) := by
  obtain ⟨j, hj, rfl⟩ := nI_of h
  rw [nI_l hj, sd_abs, if_neg h, nI_toInt hj]; rfl
theorem sd_abs_n {v : Int32} (h : v < 0) : -v.toInt64 = lN (sd_abs v) := by
  have h1 := Int32.le_toInt v
  have h2 := Int32.toInt_lt v
  have h3 : v.toInt < 0 := by
    have := Int32.lt_iff_toInt_lt.mp h
    simpa using this
  apply Int64.toInt.inj
  rw [Int64.toInt_neg, Int32.toInt_toInt64, pk_lT (by have := sd_abs_le v; omega), sd_abs, if_pos h, Int.bmod_eq_of_le (by omega) (by omega)]
  omega
set_option maxHeartbeats 4000000 in
set_option maxRecDepth 100000 in
theorem cm_rawNumber {g : jg_G} (hg : (jg_l g).stackTraces = false) {h : jh_H} {mo : Nat} {ar : Nat → Nat} {X : List Nat} {v : Int32} {Q : jw_O → jh_H → Prop} (hm : mo_ok h mo ar) (hx : rw_ok h mo ar X) (hq : ∀ h', mo_fx h h' mo ar rp_F rp_G → rw_ok h' mo ar (X ++ sd_num v) → Q (.inl none) h') : jw_C g 1 0 0 m_M_rawNumber [.inr (.inr (some mo)), .inl v] h Q := by
  refine jw_intro (ls := [some (.inr (.inr (some mo))), some (.inl v), none, none, none, none]) (by decide) k_M_rawNumber rfl (by simp [lo_fit, jv_c]) hg ?_
  have hA := sd_abs_le v
  generalize hAe : sd_abs v = A at hA
  have lp2 : ∀ m, m ≤ 10 → ∀ X1 h1, mo_fx h h1 mo ar rp_F rp_G → rw_ok h1 mo ar X1 → (∀ h', mo_fx h h' mo ar rp_F rp_G → rw_ok h' mo ar (X1 ++ sd_u A m) → Q (.inl none) h') → jw_J g 1 m_M_rawNumber jw_T0 48 [some (.inr (.inr (some mo))), some (.inl v), some (.inr (.inl (lN A))), none, some (.inr (.inl (lN (10 ^ m)))), none] [] h1 0 0 Q := by
    intro m
    induction m with
    | zero =>
      intro _ X1 h1 hf h1x hq
      have hm1 := mo_fx.ok hf hm
      refine jw_lload rfl rfl ?_
      refine jw_lconst rfl ?_
      refine jw_lcmp rfl ?_
      refine jw_if_le 83 rfl rfl (fun z => absurd ((lg_cmp_le _ _).mp z) (by decide)) (fun _ => ?_)
      refine jw_aload_n rfl rfl ?_
      refine jw_ldc2 rfl q_M_293 ?_
      refine jw_lload_n rfl rfl ?_
      refine jw_lload rfl rfl ?_
      refine jw_ldiv rfl (by decide) ?_
      refine jw_ldc2 rfl q_M_291 ?_
      rw [show lN A / lN (10 ^ 0) = lN (A / 1) from pk_lDiv (by omega) (by decide) (by decide)]
      refine jw_lrem rfl (by decide) ?_
      rw [show lN (A / 1) - lN (A / 1) / 10 * 10 = lN (A / 1 % 10) from pk_lRem (b := 10) (by omega) (by decide) (by decide), Nat.div_one]
      refine jw_ladd rfl ?_
      rw [show (48 : Int64) + lN (A % 10) = lN (48 + A % 10) from lN_add 48 _]
      refine jw_l2i rfl ?_
      rw [lN_i]
      refine js_call (As := [.inl (nI (48 + A % 10))]) rfl l_M_rawPut c_M_285 i_M_rawPut s_M_rawPut jc_o8 rfl hm1.1 rfl (cm_rawPut hg hm1 (by omega) h1x (fun h2 f2 x2 => ?_)) (by decide) (Nat.le_of_ble_eq_true rfl) (by omega) (by omega) rfl
      refine jw_lload rfl rfl ?_
      refine jw_ldc2 rfl q_M_291 ?_
      refine jw_ldiv rfl (by decide) ?_
      refine js_lstore rfl rfl (by decide) rfl ?_
      refine jw_goto 48 rfl rfl ?_
      refine jw_lload rfl rfl ?_
      refine jw_lconst rfl ?_
      refine jw_lcmp rfl ?_
      refine jw_if_le 83 rfl rfl (fun _ => ?_) (fun z => absurd ((lg_cmp_le _ _).mpr (by decide)) z)
      refine jw_return rfl rfl ?_
      exact hq h2 (mo_fx.tr hf f2 (fun _ _ z => z) (fun _ z => z)) x2
    | succ m ih =>
      intro hm10 X1 h1 hf h1x hq
      have hm1 := mo_fx.ok hf hm
      have hpow : 10 ^ (m + 1) ≤ 10 ^ 10 := Nat.pow_le_pow_right (by decide) hm10
      have hpos : 0 < 10 ^ (m + 1) := Nat.pow_pos (by decide)
      have hne : ¬ lN (10 ^ (m + 1)) = 0 := fun z => by
        have := (pk_lEQ (a := 10 ^ (m + 1)) (b := 0) (by omega) (by decide)).mp z
        omega
      refine jw_lload rfl rfl ?_
      refine jw_lconst rfl ?_
      refine jw_lcmp rfl ?_
      refine jw_if_le 83 rfl rfl (fun z => absurd ((pk_lLE (b := 0) (by omega) (by decide)).mp ((lg_cmp_le _ _).mp z)) (by omega)) (fun _ => ?_)
      refine jw_aload_n rfl rfl ?_
      refine jw_ldc2 rfl q_M_293 ?_
      refine jw_lload_n rfl rfl ?_
      refine jw_lload rfl rfl ?_
      refine jw_ldiv rfl (hne) ?_
      refine jw_ldc2 rfl q_M_291 ?_
      rw [show lN A / lN (10 ^ (m + 1)) = lN (A / 10 ^ (m + 1)) from pk_lDiv (by omega) hpos (by omega)]
      have hdl : A / 10 ^ (m + 1) ≤ A := Nat.div_le_self _ _
      refine jw_lrem rfl (by decide) ?_
      rw [show lN (A / 10 ^ (m + 1)) - lN (A / 10 ^ (m + 1)) / 10 * 10 = lN (A / 10 ^ (m + 1) % 10) from pk_lRem (b := 10) (by omega) (by decide) (by decide)]
      refine jw_ladd rfl ?_
      rw [show (48 : Int64) + lN (A / 10 ^ (m + 1) % 10) = lN (48 + A / 10 ^ (m + 1) % 10) from lN_add 48 _]
      refine jw_l2i rfl ?_
      rw [lN_i]
      refine js_call (As := [.inl (nI (48 + A / 10 ^ (m + 1) % 10))]) rfl l_M_rawPut c_M_285 i_M_rawPut s_M_rawPut jc_o8 rfl hm1.1 rfl (cm_rawPut hg hm1 (by omega) h1x (fun h2 f2 x2 => ?_)) (by decide) (Nat.le_of_ble_eq_true rfl) (by omega) (by omega) rfl
      refine jw_lload rfl rfl ?_
      refine jw_ldc2 rfl q_M_291 ?_
      refine jw_ldiv rfl (by decide) ?_
      rw [show lN (10 ^ (m + 1)) / 10 = lN (10 ^ m) from by rw [show (10 : Int64) = lN 10 from rfl, pk_lDiv (by omega) (by decide) (by decide), Nat.pow_succ, Nat.mul_div_cancel _ (by decide)]]
      refine js_lstore rfl rfl (by decide) rfl ?_
      refine jw_goto 48 rfl rfl ?_
      refine ih (by omega) (X1 ++ [48 + A / 10 ^ (m + 1) % 10]) h2 (mo_fx.tr hf f2 (fun _ _ z => z) (fun _ z => z)) x2 (fun h' f' x' => hq h' f' ?_)
      rw [sd_u]
      rw [List.append_assoc] at x'
      exact x'
  have lp1 : ∀ f m, m + f = 10 → A < 10 ^ 10 → ∀ X1 h1, mo_fx h h1 mo ar rp_F rp_G → rw_ok h1 mo ar X1 → (∀ h', mo_fx h h' mo ar rp_F rp_G → rw_ok h' mo ar (X1 ++ sd_u A (m + sd_m f (A / 10 ^ m))) → Q (.inl none) h') → jw_J g 1 m_M_rawNumber jw_T0 26 [some (.inr (.inr (some mo))), some (.inl v), some (.inr (.inl (lN A))), none, some (.inr (.inl (lN (10 ^ m)))), none] [] h1 0 0 Q := by
    intro f
    induction f with
    | zero =>
      intro m hmf hA10 X1 h1 hf h1x hq
      have em : m = 10 := by omega
      subst em
      refine jw_lload_n rfl rfl ?_
      refine jw_lload rfl rfl ?_
      refine jw_ldiv rfl (by decide) ?_
      rw [show lN A / lN (10 ^ 10) = lN (A / 10 ^ 10) from pk_lDiv (by omega) (by decide) (by decide), Nat.div_eq_of_lt hA10]
      refine jw_ldc2 rfl q_M_289 ?_
      refine jw_lcmp rfl ?_
      refine jw_if_le 48 rfl rfl (fun _ => ?_) (fun z => absurd ((lg_cmp_le _ _).mpr (by decide)) z)
      exact lp2 10 (by omega) X1 h1 hf h1x hq
    | succ f ih =>
      intro m hmf hA10 X1 h1 hf h1x hq
      have hpow : 10 ^ m ≤ 10 ^ 10 := Nat.pow_le_pow_right (by decide) (by omega)
      have hpos : 0 < 10 ^ m := Nat.pow_pos (by decide)
      have hne : ¬ lN (10 ^ m) = 0 := fun z => by
        have := (pk_lEQ (a := 10 ^ m) (b := 0) (by omega) (by decide)).mp z
        omega
      have hdl : A / 10 ^ m ≤ A := Nat.div_le_self _ _
      rw [sd_m] at hq
      refine jw_lload_n rfl rfl ?_
      refine jw_lload rfl rfl ?_
      refine jw_ldiv rfl (hne) ?_
      rw [show lN A / lN (10 ^ m) = lN (A / 10 ^ m) from pk_lDiv (by omega) hpos (by omega)]
      refine jw_ldc2 rfl q_M_289 ?_
      refine jw_lcmp rfl ?_
      refine jw_if_le 48 rfl rfl (fun z => ?_) (fun z => ?_)
      · have h9 : A / 10 ^ m ≤ 9 := (pk_lLE (b := 9) (by omega) (by decide)).mp ((lg_cmp_le _ _).mp z)
        rw [if_pos (by omega), Nat.add_zero] at hq
        exact lp2 m (by omega) X1 h1 hf h1x hq
      · have h9 : ¬ A / 10 ^ m ≤ 9 := fun y => z ((lg_cmp_le _ _).mpr ((pk_lLE (b := 9) (by omega) (by decide)).mpr y))
        rw [if_neg (by omega)] at hq
        refine jw_lload rfl rfl ?_
        refine jw_ldc2 rfl q_M_291 ?_
        refine jw_lmul rfl ?_
        rw [show lN (10 ^ m) * 10 = lN (10 ^ (m + 1)) from by rw [show (10 : Int64) = lN 10 from rfl, lN_mul, Nat.pow_succ]]
        refine js_lstore rfl rfl (by decide) rfl ?_
        refine jw_goto 26 rfl rfl ?_
        refine ih (m + 1) (by omega) hA10 X1 h1 hf h1x (fun h' f' x' => hq h' f' ?_)
        rw [Nat.div_div_eq_div_mul, ← Nat.pow_succ]
        rw [show m + (sd_m f (A / 10 ^ (m + 1)) + 1) = m + 1 + sd_m f (A / 10 ^ (m + 1)) by omega]
        exact x'
  have hA10 : A < 10 ^ 10 := by omega
  have go : ∀ X1 h1, mo_fx h h1 mo ar rp_F rp_G → rw_ok h1 mo ar X1 → (∀ h', mo_fx h h' mo ar rp_F rp_G → rw_ok h' mo ar (X1 ++ sd_nat A) → Q (.inl none) h') → jw_J g 1 m_M_rawNumber jw_T0 26 [some (.inr (.inr (some mo))), some (.inl v), some (.inr (.inl (lN A))), none, some (.inr (.inl (lN (10 ^ 0)))), none] [] h1 0 0 Q := fun X1 h1 hf h1x hq => lp1 10 0 (by omega) hA10 X1 h1 hf h1x (fun h' f' x' => hq h' f' (by
    rw [Nat.pow_zero, Nat.div_one, Nat.zero_add] at x'; exact x'))
  rw [sd_num] at hq
  refine jw_iload_n rfl rfl ?_
  refine jw_if_ge 10 rfl rfl (fun z => ?_) (fun z => ?_)
  · have hv : ¬ v < 0 := Int32.not_lt.mpr z
    rw [if_neg hv] at hq
    refine jw_iload_n rfl rfl ?_
    refine jw_i2l rfl ?_
    rw [sd_abs_p hv, hAe]
    refine js_lstore_n rfl rfl (by decide) rfl ?_
    refine jw_lconst rfl ?_
    refine js_lstore rfl rfl (by decide) rfl ?_
    refine jw_iload_n rfl rfl ?_
    refine jw_if_ge 26 rfl rfl (fun _ => ?_) (fun y => absurd z y)
    rw [hAe] at hq
    exact go X h mo_fx.rf hx hq
  · have hv : v < 0 := Int32.not_le.mp z
    rw [if_pos hv, hAe] at hq
    refine jw_iload_n rfl rfl ?_
    refine jw_i2l rfl ?_
    refine jw_lneg rfl ?_
    rw [sd_abs_n hv, hAe]
    refine jw_goto 12 rfl rfl ?_
    refine js_lstore_n rfl rfl (by decide) rfl ?_
    refine jw_lconst rfl ?_
    refine js_lstore rfl rfl (by decide) rfl ?_
    refine jw_iload_n rfl rfl ?_
    refine jw_if_ge 26 rfl rfl (fun y => absurd y z) (fun _ => ?_)
    refine jw_aload_n rfl rfl ?_
    refine js_bipush (x := 45) rfl rfl ?_
    refine js_call (As := [.inl 45]) rfl l_M_rawPut c_M_285 i_M_rawPut s_M_rawPut jc_o8 rfl hm.1 rfl (cm_rawPut hg hm (c := 45) (by decide) hx (fun h2 f2 x2 => ?_)) (by decide) (Nat.le_of_ble_eq_true rfl) (by omega) (by omega) rfl
    refine go (X ++ [45]) h2 f2 x2 (fun h' f' x' => hq h' f' ?_)
    rw [List.append_assoc] at x'
    exact x'
end
section
/-! DATA: kinds, values (a number, or how many), characters, parts, names' codes -/
abbrev sd_D : Type := (Nat → Nat) × (Nat → Int32) × (Nat → Nat → Nat) × (Nat → Nat → Nat) × (Nat → Nat → Int64)
def sd_k (D : sd_D) : Nat → Nat := D.1
def sd_v (D : sd_D) : Nat → Int32 := D.2.1
def sd_c (D : sd_D) (i : Nat) : Nat := (D.2.1 i).toNatClampNeg
def sd_t (D : sd_D) : Nat → Nat → Nat := D.2.2.1
def sd_p (D : sd_D) : Nat → Nat → Nat := D.2.2.2.1
def sd_n (D : sd_D) : Nat → Nat → Int64 := D.2.2.2.2
def mo_dl (w : Int32) (j : Nat) : Int32 := (w >>> (nI (8 * (j % 4)) &&& 31)) &&& 255
/-- the model's rows hold n DATA -/
def mo_D1 (h : jh_H) (ar : Nat → Nat) (n : Nat) (D : sd_D) (i : Nat) : Prop := jh_I h (ar 520) i = nI (sd_k D i) ∧ sd_k D i ≤ 3 ∧ jh_I h (ar 521) i = sd_v D i ∧ (sd_k D i ≠ 0 → sd_v D i = nI (sd_c D i)) ∧ (sd_k D i = 1 → sd_c D i ≤ 200 ∧ ∀ j, j < sd_c D i → mo_dl (jh_I h (ar 522) (i * 50 + j / 4)) j = nI (sd_t D i j) ∧ sd_t D i j < 128) ∧ (2 ≤ sd_k D i → sd_c D i ≤ 10 ∧ ∀ j, j < sd_c D i → jh_I h (ar 523) (i * 10 + j) = nI (sd_p D i j) ∧ sd_p D i j < n) ∧ (sd_k D i = 3 → ∀ j, j < sd_c D i → jh_G h (ar 524) (i * 10 + j) = sd_n D i j)
def mo_D (h : jh_H) (ar : Nat → Nat) (n : Nat) (D : sd_D) : Prop := n ≤ 60 ∧ ∀ i, i < n → mo_D1 h ar n D i
/-- rows of DATA aren't among what changes -/
theorem mo_D.fx {h h' h0 : jh_H} {mo : Nat} {ar : Nat → Nat} {F : Nat → Nat → Prop} {G : Nat → Prop} (hm : mo_ok h0 mo ar) (hf : mo_fx h h' mo ar F G) (hF : ∀ k j, F k j → ((k < 520 ∨ 524 < k) ∧ ∃ x ∈ mo_T, x.1 = k)) {n : Nat} {D : sd_D} (hD : mo_D h ar n D) : mo_D h' ar n D := by
  refine ⟨hD.1, fun i hi => ?_⟩
  obtain ⟨d1, d2, d3, d4, d5, d6, d7⟩ := hD.2 i hi
  have r0 : ∀ j, jh_I h' (ar 520) j = jh_I h (ar 520) j := fun j => mo_fx.rd hm hf 1 rfl (fun k hk => ⟨by have := (hF k j hk).1; omega, (hF k j hk).2⟩)
  have r1 : ∀ j, jh_I h' (ar 521) j = jh_I h (ar 521) j := fun j => mo_fx.rd hm hf 2 rfl (fun k hk => ⟨by have := (hF k j hk).1; omega, (hF k j hk).2⟩)
  have r2 : ∀ j, jh_I h' (ar 522) j = jh_I h (ar 522) j := fun j => mo_fx.rd hm hf 3 rfl (fun k hk => ⟨by have := (hF k j hk).1; omega, (hF k j hk).2⟩)
  have r3 : ∀ j, jh_I h' (ar 523) j = jh_I h (ar 523) j := fun j => mo_fx.rd hm hf 4 rfl (fun k hk => ⟨by have := (hF k j hk).1; omega, (hF k j hk).2⟩)
  refine ⟨by rw [r0]; exact d1, d2, by rw [r1]; exact d3, d4, fun z => ⟨(d5 z).1, fun j hj => by rw [r2]; exact (d5 z).2 j hj⟩, fun z => ⟨(d6 z).1, fun j hj => by rw [r3]; exact (d6 z).2 j hj⟩, fun z j hj => ?_⟩
  rw [hf.2.2.2.2.1]; exact d7 z j hj
set_option maxHeartbeats 4000000 in
set_option maxRecDepth 100000 in
theorem cm_dataLetter {g : jg_G} (hg : (jg_l g).stackTraces = false) {h : jh_H} {mo : Nat} {ar : Nat → Nat} {n x j : Nat} {D : sd_D} {Q : jw_O → jh_H → Prop} (hm : mo_ok h mo ar) (hD : mo_D h ar n D) (hx : x < n) (hk : sd_k D x = 1) (hj : j < sd_c D x) (hq : Q (.inl (some (.inl (nI (sd_t D x j))))) h) : jw_C g 0 0 0 m_M_dataLetter [.inr (.inr (some mo)), .inl (nI x), .inl (nI j)] h Q := by
  refine jw_intro (ls := [some (.inr (.inr (some mo))), some (.inl (nI x)), some (.inl (nI j))]) (by decide) k_M_dataLetter rfl (by simp [lo_fit, jv_c]) hg ?_
  have hn60 := hD.1
  obtain ⟨d1, d2, d3, d4, d5, d6, d7⟩ := hD.2 x hx
  have hc := (d5 hk).1
  have hl := ((d5 hk).2 j hj).1
  refine jw_aload_n rfl rfl ?_
  refine jw_gr rfl g_M_42 hm.1 (mo_r hm 3 rfl) ?_
  refine jw_iload_n rfl rfl ?_
  refine js_bipush (x := 50) rfl rfl ?_
  refine jw_imul rfl ?_
  refine jw_iload_n rfl rfl ?_
  refine js_iconst (x := 4) rfl rfl ?_
  refine jw_idiv rfl (by decide) ?_
  rw [show nI x * 50 = nI (x * 50) from pk_mul x 50, show nI j / 4 = nI (j / 4) from pk_div (d := 4) (by omega) (by decide) (by decide)]
  refine jw_iadd rfl ?_
  rw [nI_add]
  refine js_iald (x * 50 + j / 4) rfl (mo_a hm 3 rfl) (by decide) (by rfl)  rfl (by omega) (by decide) ?_
  refine js_bipush (x := 8) rfl rfl ?_
  refine jw_iload_n rfl rfl ?_
  refine js_iconst (x := 4) rfl rfl ?_
  refine jw_irem rfl (by decide) ?_
  rw [show nI j - nI j / 4 * 4 = nI (j % 4) from pk_rem (d := 4) (by omega) (by decide) (by decide)]
  refine jw_imul rfl ?_
  rw [show (8 : Int32) * nI (j % 4) = nI (8 * (j % 4)) from pk_mul 8 _]
  refine jw_ishr rfl ?_
  refine js_sipush (x := 255) rfl rfl ?_
  refine jw_iand rfl ?_
  rw [show (jh_I h (ar 522) (x * 50 + j / 4) >>> (nI (8 * (j % 4)) &&& 31)) &&& 255 = nI (sd_t D x j) from hl]
  refine jw_ireturn rfl rfl rfl ?_
  exact hq
/-- with commas between -/
def sd_jn (g : Nat → List Nat) : Nat → Nat → List Nat
  | 0, _ => []
  | m + 1, i => (if 0 < i then [44] else []) ++ (g i ++ sd_jn g m (i + 1))
/-- the raw text of DATA x; the fuel is the depth -/
def sd_raw (D : sd_D) : Nat → Nat → List Nat
  | 0, _ => []
  | f + 1, x => if sd_k D x = 0 then sd_num (sd_v D x) else if sd_k D x = 1 then (List.range (sd_c D x)).map (sd_t D x) else if sd_k D x = 3 then [91, 109, 97, 112, 93] else sd_jn (fun j => sd_raw D f (sd_p D x j)) (sd_c D x) 0
/-- no deeper than f -/
def sd_dp (D : sd_D) : Nat → Nat → Prop
  | 0, _ => False
  | f + 1, x => 2 ≤ sd_k D x → ∀ j, j < sd_c D x → sd_dp D f (sd_p D x j)
def rd_F (k _j : Nat) : Prop := k = 542 ∨ k = 556 ∨ k = 557
def rd_G (k : Nat) : Prop := k = 545 ∨ k = 551
theorem rd_F_in {k j : Nat} (h : rd_F k j) : (k < 520 ∨ 524 < k) ∧ ∃ x ∈ mo_T, x.1 = k := by
  rcases h with rfl | rfl | rfl
  · exact ⟨by decide, (542, 0, 401), by decide, rfl⟩
  · exact ⟨by decide, (556, 1, 60), by decide, rfl⟩
  · exact ⟨by decide, (557, 1, 60), by decide, rfl⟩
/-- what rawData does at once: all of x but a LIST's elements -/
def sd_now (D : sd_D) (x : Nat) : List Nat := if sd_k D x = 0 then sd_num (sd_v D x) else if sd_k D x = 1 then (List.range (sd_c D x)).map (sd_t D x) else if sd_k D x = 3 then [91, 109, 97, 112, 93] else []
theorem rp_rd {h h' : jh_H} {mo : Nat} {ar : Nat → Nat} (a : mo_fx h h' mo ar rp_F rp_G) : mo_fx h h' mo ar rd_F rd_G := mo_fx.mono a (fun _ _ z => Or.inl z) (fun _ z => Or.inl z)
theorem nI_ne {a b : Nat} (ha : a < 2 ^ 31) (hb : b < 2 ^ 31) (h : ¬ nI a = nI b) : a ≠ b := fun e => h (by rw [e])
set_option maxHeartbeats 4000000 in
set_option maxRecDepth 100000 in
theorem cm_rawData {g : jg_G} (hg : (jg_l g).stackTraces = false) {h : jh_H} {mo : Nat} {ar : Nat → Nat} {n x dp : Nat} {X : List Nat} {D : sd_D} {Q : jw_O → jh_H → Prop} (hm : mo_ok h mo ar) (hD : mo_D h ar n D) (hx : x < n) (hX : rw_ok h mo ar X) (hdp : jh_i h mo 551 = nI dp) (hdp60 : sd_k D x = 2 → dp < 60)
    (q1 : sd_k D x ≠ 2 → ∀ h', mo_fx h h' mo ar rp_F rp_G → rw_ok h' mo ar (X ++ sd_now D x) → Q (.inl none) h') (q2 : sd_k D x = 2 → Q (.inl none) (jh_si (jh_sI (jh_sI h (ar 556) dp (nI x)) (ar 557) dp 0) mo 551 (nI (dp + 1)))) : jw_C g 2 0 0 m_M_rawData [.inr (.inr (some mo)), .inl (nI x)] h Q := by
  refine jw_intro (ls := [some (.inr (.inr (some mo))), some (.inl (nI x)), none]) (by decide) k_M_rawData rfl (by simp [lo_fit, jv_c]) hg ?_
  have hn60 := hD.1
  obtain ⟨d1, d2, d3, d4, d5, d6, d7⟩ := hD.2 x hx
  rw [sd_now] at q1
  have kind : ∀ h', mo_fx h h' mo ar rp_F rp_G → jh_I h' (ar 520) x = nI (sd_k D x) := fun h' hf => ((mo_D.fx hm hf (fun k j z => rd_F_in (j := j) (Or.inl z)) hD).2 x hx).1
  -- the ends
  have at71 : ∀ h' y, mo_fx h h' mo ar rp_F rp_G → sd_k D x ≠ 2 → Q (.inl none) h' → jw_J g 2 m_M_rawData jw_T0 71 [some (.inr (.inr (some mo))), some (.inl (nI x)), y] [] h' 0 0 Q := by
    intro h' y hf hk hq
    have hm' := mo_fx.ok hf hm
    refine jw_aload_n rfl rfl ?_
    refine jw_gr rfl g_M_35 hm'.1 (mo_r hm' 1 rfl) ?_
    refine jw_iload_n rfl rfl ?_
    refine js_iald (x) rfl (mo_a hm' 1 rfl) (by decide) (by rfl)  rfl (by omega) (by decide) ?_
    rw [kind h' hf]
    refine js_iconst (x := 2) rfl rfl ?_
    refine jw_icmp_eq 82 rfl rfl (fun z => absurd ((nI_eq (b := 2) (by omega) (by omega)).mp z) hk) (fun _ => ?_)
    refine jw_return rfl rfl ?_
    exact hq
  have at57 : ∀ h' y, mo_fx h h' mo ar rp_F rp_G → sd_k D x ≠ 3 → sd_k D x ≠ 2 → Q (.inl none) h' → jw_J g 2 m_M_rawData jw_T0 57 [some (.inr (.inr (some mo))), some (.inl (nI x)), y] [] h' 0 0 Q := by
    intro h' y hf hk3 hk hq
    have hm' := mo_fx.ok hf hm
    refine jw_aload_n rfl rfl ?_
    refine jw_gr rfl g_M_35 hm'.1 (mo_r hm' 1 rfl) ?_
    refine jw_iload_n rfl rfl ?_
    refine js_iald (x) rfl (mo_a hm' 1 rfl) (by decide) (by rfl)  rfl (by omega) (by decide) ?_
    rw [kind h' hf]
    refine js_iconst (x := 3) rfl rfl ?_
    refine jw_icmp_ne 71 rfl rfl (fun _ => ?_) (fun z => absurd ((nI_eq (b := 3) (by omega) (by omega)).mp z) hk3)
    exact at71 h' y hf hk hq
  have at19 : ∀ h', mo_fx h h' mo ar rp_F rp_G → sd_k D x ≠ 1 → jw_J g 2 m_M_rawData jw_T0 57 [some (.inr (.inr (some mo))), some (.inl (nI x)), none] [] h' 0 0 Q → jw_J g 2 m_M_rawData jw_T0 19 [some (.inr (.inr (some mo))), some (.inl (nI x)), none] [] h' 0 0 Q := by
    intro h' hf hk1 kk
    have hm' := mo_fx.ok hf hm
    refine jw_aload_n rfl rfl ?_
    refine jw_gr rfl g_M_35 hm'.1 (mo_r hm' 1 rfl) ?_
    refine jw_iload_n rfl rfl ?_
    refine js_iald (x) rfl (mo_a hm' 1 rfl) (by decide) (by rfl)  rfl (by omega) (by decide) ?_
    rw [kind h' hf]
    refine js_iconst (x := 1) rfl rfl ?_
    refine jw_icmp_ne 57 rfl rfl (fun _ => kk) (fun z => absurd ((nI_eq (b := 1) (by omega) (by omega)).mp z) hk1)
  refine jw_aload_n rfl rfl ?_
  refine jw_gr rfl g_M_35 hm.1 (mo_r hm 1 rfl) ?_
  refine jw_iload_n rfl rfl ?_
  refine js_iald (x) rfl (mo_a hm 1 rfl) (by decide) (by rfl)  rfl (by omega) (by decide) ?_
  rw [d1]
  refine jw_if_ne 19 rfl rfl (fun z => ?_) (fun z => ?_)
  rotate_left
  · have h0 : sd_k D x = 0 := (nI_eq (b := 0) (by omega) (by omega)).mp z
    refine jw_aload_n rfl rfl ?_
    refine jw_aload_n rfl rfl ?_
    refine jw_gr rfl g_M_39 hm.1 (mo_r hm 2 rfl) ?_
    refine jw_iload_n rfl rfl ?_
    refine js_iald (x) rfl (mo_a hm 2 rfl) (by decide) (by rfl)  rfl (by omega) (by decide) ?_
    rw [d3]
    refine js_call (As := [.inl (sd_v D x)]) rfl l_M_rawNumber c_M_295 i_M_rawNumber s_M_rawNumber jc_o8 rfl hm.1 rfl (cm_rawNumber hg hm hX (fun h' f' x' => ?_)) (by decide) (Nat.le_of_ble_eq_true rfl) (by omega) (by omega) rfl
    refine at19 h' f' (by omega) (at57 h' none f' (by omega) (by omega) (q1 (by omega) h' f' ?_))
    rw [if_pos h0]; exact x'
  have h0 : sd_k D x ≠ 0 := fun e => z (by rw [e]; rfl)
  have d4 := d4 h0
  rcases (show sd_k D x = 1 ∨ sd_k D x = 2 ∨ sd_k D x = 3 by omega) with h1 | h1 | h1
  · -- a TEXT
    have hc := (d5 h1).1
    refine jw_aload_n rfl rfl ?_
    refine jw_gr rfl g_M_35 hm.1 (mo_r hm 1 rfl) ?_
    refine jw_iload_n rfl rfl ?_
    refine js_iald (x) rfl (mo_a hm 1 rfl) (by decide) (by rfl)  rfl (by omega) (by decide) ?_
    rw [d1]
    refine js_iconst (x := 1) rfl rfl ?_
    refine jw_icmp_ne 57 rfl rfl (fun z => absurd (by rw [h1]; rfl) z) (fun _ => ?_)
    have loop : ∀ m j h', j + m = sd_c D x → mo_fx h h' mo ar rp_F rp_G → rw_ok h' mo ar (X ++ (List.range j).map (sd_t D x)) → jw_J g 2 m_M_rawData jw_T0 31 [some (.inr (.inr (some mo))), some (.inl (nI x)), some (.inl (nI j))] [] h' 0 0 Q := by
      intro m
      induction m with
      | zero =>
        intro j h' hj hf hx'
        have hm' := mo_fx.ok hf hm
        have hD' := mo_D.fx hm hf (fun k j z => rd_F_in (j := j) (Or.inl z)) hD
        have ev : jh_I h' (ar 521) x = nI (sd_c D x) := by rw [(hD'.2 x hx).2.2.1, d4]
        refine jw_iload_n rfl rfl ?_
        refine jw_aload_n rfl rfl ?_
        refine jw_gr rfl g_M_39 hm'.1 (mo_r hm' 2 rfl) ?_
        refine jw_iload_n rfl rfl ?_
        refine js_iald (x) rfl (mo_a hm' 2 rfl) (by decide) (by rfl)  rfl (by omega) (by decide) ?_
        rw [ev]
        refine jw_icmp_ge 57 rfl rfl (fun _ => ?_) (fun z => absurd ((nI_leI (by omega) (by omega)).mpr (by omega)) z)
        refine at57 h' _ hf (by omega) (by omega) (q1 (by omega) h' hf ?_)
        rw [if_neg h0, if_pos h1, ← show j = sd_c D x by omega]; exact hx'
      | succ m ih =>
        intro j h' hj hf hx'
        have hm' := mo_fx.ok hf hm
        have hD' := mo_D.fx hm hf (fun k j z => rd_F_in (j := j) (Or.inl z)) hD
        have ev : jh_I h' (ar 521) x = nI (sd_c D x) := by rw [(hD'.2 x hx).2.2.1, d4]
        have ht := ((d5 h1).2 j (by omega)).2
        refine jw_iload_n rfl rfl ?_
        refine jw_aload_n rfl rfl ?_
        refine jw_gr rfl g_M_39 hm'.1 (mo_r hm' 2 rfl) ?_
        refine jw_iload_n rfl rfl ?_
        refine js_iald (x) rfl (mo_a hm' 2 rfl) (by decide) (by rfl)  rfl (by omega) (by decide) ?_
        rw [ev]
        refine jw_icmp_ge 57 rfl rfl (fun z => absurd ((nI_leI (by omega) (by omega)).mp z) (by omega)) (fun _ => ?_)
        refine jw_aload_n rfl rfl ?_
        refine jw_aload_n rfl rfl ?_
        refine jw_iload_n rfl rfl ?_
        refine jw_iload_n rfl rfl ?_
        refine js_call (As := [.inl (nI x), .inl (nI j)]) rfl l_M_dataLetter c_M_282 i_M_dataLetter s_M_dataLetter jc_o8 rfl (hm'.1) rfl (cm_dataLetter hg hm' hD' hx h1 (by omega) ?_) (by decide) (Nat.le_of_ble_eq_true rfl) (by omega) (by omega) rfl
        refine js_call (As := [.inl (nI (sd_t D x j))]) rfl l_M_rawPut c_M_285 i_M_rawPut s_M_rawPut jc_o8 rfl hm'.1 rfl (cm_rawPut hg hm' ht hx' (fun h2 f2 x2 => ?_)) (by decide) (Nat.le_of_ble_eq_true rfl) (by omega) (by omega) rfl
        refine js_iinc rfl rfl (nI_1 j) rfl (by decide) rfl ?_
        refine jw_goto 31 rfl rfl ?_
        refine ih (j + 1) h2 (by omega) (mo_fx.tr hf f2 (fun _ _ z => z) (fun _ z => z)) ?_
        rw [List.range_succ, List.map_append, ← List.append_assoc]
        exact x2
    refine js_iconst (x := 0) rfl rfl ?_
    refine js_istore_n rfl rfl (by decide) rfl ?_
    exact loop (sd_c D x) 0 h (by omega) mo_fx.rf (by simpa using hX)
  · -- a LIST
    refine at19 h mo_fx.rf (by omega) ?_
    have hd60 := hdp60 h1
    refine jw_aload_n rfl rfl ?_
    refine jw_gr rfl g_M_35 hm.1 (mo_r hm 1 rfl) ?_
    refine jw_iload_n rfl rfl ?_
    refine js_iald (x) rfl (mo_a hm 1 rfl) (by decide) (by rfl)  rfl (by omega) (by decide) ?_
    rw [d1, h1]
    refine js_iconst (x := 3) rfl rfl ?_
    refine jw_icmp_ne 71 rfl rfl (fun _ => ?_) (fun z => absurd z (by decide))
    refine jw_aload_n rfl rfl ?_
    refine jw_gr rfl g_M_35 hm.1 (mo_r hm 1 rfl) ?_
    refine jw_iload_n rfl rfl ?_
    refine js_iald (x) rfl (mo_a hm 1 rfl) (by decide) (by rfl)  rfl (by omega) (by decide) ?_
    rw [d1, h1]
    refine js_iconst (x := 2) rfl rfl ?_
    refine jw_icmp_eq 82 rfl rfl (fun _ => ?_) (fun z => absurd rfl z)
    refine jw_aload_n rfl rfl ?_
    refine jw_gr rfl g_M_146 hm.1 (mo_r hm 30 rfl) ?_
    refine jw_aload_n rfl rfl ?_
    refine jw_gi rfl g_M_131 hm.1 hdp ?_
    refine jw_iload_n rfl rfl ?_
    refine js_iast (dp) rfl (mo_a hm 30 rfl) (by decide) (by rfl)  rfl (by omega) (by decide) ?_
    refine jw_aload_n rfl rfl ?_
    refine jw_gr rfl g_M_149 (mo_sI hm).1 (mo_r (mo_sI hm) 31 rfl) ?_
    refine jw_aload_n rfl rfl ?_
    refine jw_gi rfl g_M_131 (mo_sI hm).1 hdp ?_
    refine js_iconst (x := 0) rfl rfl ?_
    refine js_iast (dp) rfl (mo_a (mo_sI hm) 31 rfl) (by decide) (by rfl)  rfl (by omega) (by decide) ?_
    refine jw_aload_n rfl rfl ?_
    refine jw_dup rfl rfl ?_
    refine jw_gi rfl g_M_131 (mo_sI (mo_sI hm)).1 hdp ?_
    refine js_iconst (x := 1) rfl rfl ?_
    refine jw_iadd rfl ?_
    rw [show nI dp + 1 = nI (dp + 1) from nI_1 dp]
    refine jw_pi rfl p_M_rawData_131 (mo_sI (mo_sI hm)).1 ?_
    refine jw_return rfl rfl ?_
    exact q2 h1
  · -- a MAP
    refine at19 h mo_fx.rf (by omega) ?_
    refine jw_aload_n rfl rfl ?_
    refine jw_gr rfl g_M_35 hm.1 (mo_r hm 1 rfl) ?_
    refine jw_iload_n rfl rfl ?_
    refine js_iald (x) rfl (mo_a hm 1 rfl) (by decide) (by rfl)  rfl (by omega) (by decide) ?_
    rw [d1, h1]
    refine js_iconst (x := 3) rfl rfl ?_
    refine jw_icmp_ne 71 rfl rfl (fun z => absurd rfl z) (fun _ => ?_)
    refine jw_aload_n rfl rfl ?_
    refine js_call (As := []) rfl l_M_rawMap c_M_298 i_M_rawMap s_M_rawMap jc_o8 rfl hm.1 rfl (cm_rawMap hg hm hX (fun h' f' x' => ?_)) (by decide) (Nat.le_of_ble_eq_true rfl) (by omega) (by omega) rfl
    refine at71 h' none f' (by omega) (q1 (by omega) h' f' ?_)
    rw [if_neg h0, if_neg (by omega), if_pos h1]; exact x'
end
section
/-! a register's value shown raw -/
abbrev sv_T : Type := Option (Int32 ⊕ List Nat ⊕ Nat)
def sv_raw (D : sd_D) (v : sv_T) : List Nat := match v with
  | none => []
  | some (.inl x) => sd_num x
  | some (.inr (.inl L)) => L
  | some (.inr (.inr x)) => sd_raw D 60 x
/-- register r holds v -/
def mo_R (h : jh_H) (ar : Nat → Nat) (n : Nat) (D : sd_D) (r : Nat) (v : sv_T) : Prop := match v with
  | none => jh_I h (ar 538) r = -1
  | some (.inl x) => jh_I h (ar 538) r = 0 ∧ jh_I h (ar 539) r = x
  | some (.inr (.inl L)) => jh_I h (ar 538) r = 1 ∧ jh_I h (ar 540) r = nI L.length ∧ L.length ≤ 400 ∧ ∀ j, j < L.length → jh_I h (ar 541) (r * 400 + j) = nI (L.getD j 0) ∧ L.getD j 0 < 128
  | some (.inr (.inr x)) => jh_I h (ar 538) r = nI (sd_k D x) ∧ jh_I h (ar 539) r = nI x ∧ x < n ∧ 2 ≤ sd_k D x
theorem rw_more {h : jh_H} {mo : Nat} {ar : Nat → Nat} {X Z : List Nat} (hx : rw_ok h mo ar X) (hl : 401 ≤ X.length) : rw_ok h mo ar (X ++ Z) := by
  have e : min (X ++ Z).length 401 = min X.length 401 := by simp; omega
  refine ⟨by rw [e]; exact hx.1, fun j hj => ?_⟩
  rw [e] at hj
  have hj2 : j < X.length := by omega
  rw [show (X ++ Z).getD j 0 = X.getD j 0 by simp [List.getD, List.getElem?_append_left hj2]]
  exact hx.2 j hj
/-- what is open: lists and their next elements -/
def rs_ok (h : jh_H) (mo : Nat) (ar : Nat → Nat) (d : Nat) (S : Nat → Nat × Nat) : Prop := jh_i h mo 551 = nI d ∧ ∀ k, k < d → jh_I h (ar 556) k = nI (S k).1 ∧ jh_I h (ar 557) k = nI (S k).2
theorem rs_fx {h h' h0 : jh_H} {mo : Nat} {ar : Nat → Nat} (hm : mo_ok h0 mo ar) (hf : mo_fx h h' mo ar rp_F rp_G) {d : Nat} {S : Nat → Nat × Nat} (hs : rs_ok h mo ar d S) : rs_ok h' mo ar d S := by
  refine ⟨by rw [mo_fx.rdi hf (show ¬ rp_G 551 from by unfold rp_G; decide)]; exact hs.1, fun k hk => ?_⟩
  have hin : ∀ k j, rp_F k j → ∃ x ∈ mo_T, x.1 = k := fun k j z => (rd_F_in (j := j) (Or.inl z)).2
  rw [mo_fx.rd hm hf 30 rfl (fun q z => ⟨by rw [show q = 542 from z]; decide, hin q _ z⟩), mo_fx.rd hm hf 31 rfl (fun q z => ⟨by rw [show q = 542 from z]; decide, hin q _ z⟩)]
  exact hs.2 k hk
theorem rs_lt {h : jh_H} {mo : Nat} {ar : Nat → Nat} {d : Nat} {S : Nat → Nat × Nat} (hs : rs_ok h mo ar (d + 1) S) {h' : jh_H} (e1 : jh_i h' mo 551 = nI d) (e2 : jh_I h' = jh_I h) : rs_ok h' mo ar d S := ⟨e1, fun k hk => by rw [e2]; exact hs.2 k (by omega)⟩
def sr_G (k : Nat) : Prop := rd_G k ∨ k = 550
set_option maxHeartbeats 4000000 in
set_option maxRecDepth 100000 in
theorem cm_showRaw {g : jg_G} (hg : (jg_l g).stackTraces = false) {h : jh_H} {mo : Nat} {ar : Nat → Nat} {n r : Nat} {D : sd_D} {v : sv_T} {Q : jw_O → jh_H → Prop} (hm : mo_ok h mo ar) (hD : mo_D h ar n D) (hdp : ∀ x, x < n → sd_dp D 60 x) (hr : r < 18) (hv : mo_R h ar n D r v)
    (hq : ∀ h', mo_fx h h' mo ar rd_F sr_G → rw_ok h' mo ar (sv_raw D v) → jh_i h' mo 550 = (if 400 < (sv_raw D v).length then 4 else jh_i h mo 550) → Q (.inl none) h') : jw_C g 3 0 0 m_M_showRaw [.inr (.inr (some mo)), .inl (nI r)] h Q := by
  refine jw_intro (ls := [some (.inr (.inr (some mo))), some (.inl (nI r)), none, none, none]) (by decide) k_M_showRaw rfl (by simp [lo_fit, jv_c]) hg ?_
  have hn60 := hD.1
  generalize hX : sv_raw D v = X at hq
  have keepD : ∀ h', mo_fx h h' mo ar rd_F rd_G → mo_D h' ar n D := fun h' hf => mo_D.fx hm hf (fun k j z => rd_F_in z) hD
  -- the end
  have at196 : ∀ h1, mo_fx h h1 mo ar rd_F rd_G → rw_ok h1 mo ar X → ∀ a b c, jw_J g 3 m_M_showRaw jw_T0 196 [some (.inr (.inr (some mo))), some (.inl (nI r)), a, b, c] [] h1 0 0 Q := by
    intro h1 hf hx a b c
    have hm1 := mo_fx.ok hf hm
    have hf2 : mo_fx h h1 mo ar rd_F sr_G := mo_fx.mono hf (fun _ _ z => z) (fun _ z => Or.inl z)
    have e550 : jh_i h1 mo 550 = jh_i h mo 550 := mo_fx.rdi hf (by unfold rd_G; decide)
    refine jw_aload_n rfl rfl ?_
    refine jw_gi rfl g_M_113 hm1.1 hx.1 ?_
    refine js_sipush (x := 400) rfl rfl ?_
    refine jw_icmp_le 211 rfl rfl (fun z => ?_) (fun z => ?_)
    · have h9 : min X.length 401 ≤ 400 := (nI_leI (b := 400) (by omega) (by omega)).mp z
      refine jw_return rfl rfl ?_
      exact hq h1 hf2 hx (by rw [if_neg (by omega)]; exact e550)
    · have h1' : ¬ min X.length 401 ≤ 400 := fun y => z ((nI_leI (b := 400) (by omega) (by omega)).mpr y)
      refine jw_aload_n rfl rfl ?_
      refine js_iconst (x := 4) rfl rfl ?_
      refine jw_pi rfl p_M_showRaw_128 hm1.1 ?_
      refine jw_return rfl rfl ?_
      refine hq _ (mo_fx.si (k := 550) hf2 (Or.inr rfl)) ⟨(jh_u_k _ _ _ _ (by decide)).trans hx.1, hx.2⟩ ?_
      rw [if_pos (by omega)]; exact jh_u_s _ _ _ _
  have full : ∀ h1 Y Z, mo_fx h h1 mo ar rd_F rd_G → rw_ok h1 mo ar Y → 401 ≤ Y.length → X = Y ++ Z → ∀ d, jh_i h1 mo 551 = nI d → d ≤ 60 → jw_J g 3 m_M_showRaw jw_T0 93 [some (.inr (.inr (some mo))), some (.inl (nI r)), none, none, none] [] h1 0 0 Q := by
    intro h1 Y Z hf hy hl hXY d hd hd60
    have hm1 := mo_fx.ok hf hm
    have hx : rw_ok h1 mo ar X := by rw [hXY]; exact rw_more hy hl
    refine jw_aload_n rfl rfl ?_
    refine jw_gi rfl g_M_131 hm1.1 hd ?_
    refine jw_if_le 196 rfl rfl (fun _ => at196 h1 hf hx _ _ _) (fun _ => ?_)
    refine jw_aload_n rfl rfl ?_
    refine jw_gi rfl g_M_113 hm1.1 hy.1 ?_
    refine js_sipush (x := 401) rfl rfl ?_
    refine jw_icmp_ge 196 rfl rfl (fun _ => at196 h1 hf hx _ _ _) (fun z => absurd ((nI_leI (a := 401) (by omega) (by omega)).mpr (by omega)) z)
  -- lists: f the depth below, m the elements to come
  have lst : ∀ f x, x < n → sd_k D x = 2 → (∀ j, j < sd_c D x → sd_dp D f (sd_p D x j)) → ∀ m i, i + m = sd_c D x → ∀ d S Y Z h1, d + 1 + f ≤ 60 → mo_fx h h1 mo ar rd_F rd_G → rw_ok h1 mo ar Y → rs_ok h1 mo ar (d + 1) S → S d = (x, i) → X = Y ++ sd_jn (fun j => sd_raw D f (sd_p D x j)) m i ++ Z →
      (∀ h2, mo_fx h h2 mo ar rd_F rd_G → rw_ok h2 mo ar (Y ++ sd_jn (fun j => sd_raw D f (sd_p D x j)) m i) → rs_ok h2 mo ar d S → jw_J g 3 m_M_showRaw jw_T0 93 [some (.inr (.inr (some mo))), some (.inl (nI r)), none, none, none] [] h2 0 0 Q) → jw_J g 3 m_M_showRaw jw_T0 93 [some (.inr (.inr (some mo))), some (.inl (nI r)), none, none, none] [] h1 0 0 Q := by
    intro f
    induction f with
    | zero =>
      intro x hx hk hdx m
      cases m with
      | zero => exact (by
        intro i hi d S Y Z h1 hdf hf hy hs hSd hXY kk
        rw [sd_jn, List.append_nil] at kk hXY
        have hXY : X = Y ++ Z := by rw [hXY]
        rcases Nat.lt_or_ge Y.length 401 with hl | hl
        rotate_left
        · exact full h1 Y Z hf hy hl hXY (d + 1) hs.1 (by omega)
        have hm1 := mo_fx.ok hf hm
        have hD1 := keepD h1 hf
        obtain ⟨d1, d2, d3, d4, d5, d6, d7⟩ := hD1.2 x hx
        have hc10 := (d6 (by omega)).1
        have hs1 := hs.2 d (by omega)
        rw [hSd] at hs1
        refine jw_aload_n rfl rfl ?_
        refine jw_gi rfl g_M_131 hm1.1 hs.1 ?_
        refine jw_if_le 196 rfl rfl (fun z => absurd ((nI_leI (b := 0) (by omega) (by omega)).mp z) (by omega)) (fun _ => ?_)
        refine jw_aload_n rfl rfl ?_
        refine jw_gi rfl g_M_113 hm1.1 hy.1 ?_
        refine js_sipush (x := 401) rfl rfl ?_
        refine jw_icmp_ge 196 rfl rfl (fun z => absurd ((nI_leI (a := 401) (by omega) (by omega)).mp z) (by omega)) (fun _ => ?_)
        refine jw_aload_n rfl rfl ?_
        refine jw_gi rfl g_M_131 hm1.1 hs.1 ?_
        refine js_iconst (x := 1) rfl rfl ?_
        refine jw_isub rfl ?_
        rw [show nI (d + 1) - 1 = nI d from nI_pred d]
        refine js_istore_n rfl rfl (by decide) rfl ?_
        refine jw_aload_n rfl rfl ?_
        refine jw_gr rfl g_M_146 hm1.1 (mo_r hm1 30 rfl) ?_
        refine jw_iload_n rfl rfl ?_
        refine js_iald (d) rfl (mo_a hm1 30 rfl) (by decide) (by rfl)  rfl (by omega) (by decide) ?_
        rw [hs1.1]
        refine js_istore_n rfl rfl (by decide) rfl ?_
        refine jw_aload_n rfl rfl ?_
        refine jw_gr rfl g_M_149 hm1.1 (mo_r hm1 31 rfl) ?_
        refine jw_iload_n rfl rfl ?_
        refine js_iald (d) rfl (mo_a hm1 31 rfl) (by decide) (by rfl)  rfl (by omega) (by decide) ?_
        rw [hs1.2]
        refine js_istore rfl rfl (by decide) rfl ?_
        refine jw_iload rfl rfl ?_
        refine jw_aload_n rfl rfl ?_
        refine jw_gr rfl g_M_39 hm1.1 (mo_r hm1 2 rfl) ?_
        refine jw_iload_n rfl rfl ?_
        refine js_iald (x) rfl (mo_a hm1 2 rfl) (by decide) (by rfl)  rfl (by omega) (by decide) ?_
        rw [d3, d4 (by omega)]
        refine jw_icmp_ne 156 rfl rfl (fun z => absurd (by show nI i = nI (sd_c D x); congr 1) z) (fun _ => ?_)
        refine jw_aload_n rfl rfl ?_
        refine jw_dup rfl rfl ?_
        refine jw_gi rfl g_M_131 hm1.1 hs.1 ?_
        refine js_iconst (x := 1) rfl rfl ?_
        refine jw_isub rfl ?_
        rw [show nI (d + 1) - 1 = nI d from nI_pred d]
        refine jw_pi rfl p_M_showRaw_131 hm1.1 ?_
        refine jw_goto 93 rfl rfl ?_
        refine js_drop 2 rfl (js_drop 3 rfl (js_drop 4 rfl (kk _ (mo_fx.si (k := 551) hf (Or.inr rfl)) ⟨(jh_u_k _ _ _ _ (by decide)).trans hy.1, hy.2⟩ (rs_lt hs (jh_u_s _ _ _ _) rfl)))))
      | succ m => intro i hi; exact absurd (hdx i (by omega)) id
    | succ f ihf =>
      intro x hx hk hdx m
      induction m with
      | zero => exact (by
        intro i hi d S Y Z h1 hdf hf hy hs hSd hXY kk
        rw [sd_jn, List.append_nil] at kk hXY
        have hXY : X = Y ++ Z := by rw [hXY]
        rcases Nat.lt_or_ge Y.length 401 with hl | hl
        rotate_left
        · exact full h1 Y Z hf hy hl hXY (d + 1) hs.1 (by omega)
        have hm1 := mo_fx.ok hf hm
        have hD1 := keepD h1 hf
        obtain ⟨d1, d2, d3, d4, d5, d6, d7⟩ := hD1.2 x hx
        have hc10 := (d6 (by omega)).1
        have hs1 := hs.2 d (by omega)
        rw [hSd] at hs1
        refine jw_aload_n rfl rfl ?_
        refine jw_gi rfl g_M_131 hm1.1 hs.1 ?_
        refine jw_if_le 196 rfl rfl (fun z => absurd ((nI_leI (b := 0) (by omega) (by omega)).mp z) (by omega)) (fun _ => ?_)
        refine jw_aload_n rfl rfl ?_
        refine jw_gi rfl g_M_113 hm1.1 hy.1 ?_
        refine js_sipush (x := 401) rfl rfl ?_
        refine jw_icmp_ge 196 rfl rfl (fun z => absurd ((nI_leI (a := 401) (by omega) (by omega)).mp z) (by omega)) (fun _ => ?_)
        refine jw_aload_n rfl rfl ?_
        refine jw_gi rfl g_M_131 hm1.1 hs.1 ?_
        refine js_iconst (x := 1) rfl rfl ?_
        refine jw_isub rfl ?_
        rw [show nI (d + 1) - 1 = nI d from nI_pred d]
        refine js_istore_n rfl rfl (by decide) rfl ?_
        refine jw_aload_n rfl rfl ?_
        refine jw_gr rfl g_M_146 hm1.1 (mo_r hm1 30 rfl) ?_
        refine jw_iload_n rfl rfl ?_
        refine js_iald (d) rfl (mo_a hm1 30 rfl) (by decide) (by rfl)  rfl (by omega) (by decide) ?_
        rw [hs1.1]
        refine js_istore_n rfl rfl (by decide) rfl ?_
        refine jw_aload_n rfl rfl ?_
        refine jw_gr rfl g_M_149 hm1.1 (mo_r hm1 31 rfl) ?_
        refine jw_iload_n rfl rfl ?_
        refine js_iald (d) rfl (mo_a hm1 31 rfl) (by decide) (by rfl)  rfl (by omega) (by decide) ?_
        rw [hs1.2]
        refine js_istore rfl rfl (by decide) rfl ?_
        refine jw_iload rfl rfl ?_
        refine jw_aload_n rfl rfl ?_
        refine jw_gr rfl g_M_39 hm1.1 (mo_r hm1 2 rfl) ?_
        refine jw_iload_n rfl rfl ?_
        refine js_iald (x) rfl (mo_a hm1 2 rfl) (by decide) (by rfl)  rfl (by omega) (by decide) ?_
        rw [d3, d4 (by omega)]
        refine jw_icmp_ne 156 rfl rfl (fun z => absurd (by show nI i = nI (sd_c D x); congr 1) z) (fun _ => ?_)
        refine jw_aload_n rfl rfl ?_
        refine jw_dup rfl rfl ?_
        refine jw_gi rfl g_M_131 hm1.1 hs.1 ?_
        refine js_iconst (x := 1) rfl rfl ?_
        refine jw_isub rfl ?_
        rw [show nI (d + 1) - 1 = nI d from nI_pred d]
        refine jw_pi rfl p_M_showRaw_131 hm1.1 ?_
        refine jw_goto 93 rfl rfl ?_
        refine js_drop 2 rfl (js_drop 3 rfl (js_drop 4 rfl (kk _ (mo_fx.si (k := 551) hf (Or.inr rfl)) ⟨(jh_u_k _ _ _ _ (by decide)).trans hy.1, hy.2⟩ (rs_lt hs (jh_u_s _ _ _ _) rfl)))))
      | succ m ihm =>
        intro i hi d S Y Z h1 hdf hf hy hs hSd hXY kk
        rcases Nat.lt_or_ge Y.length 401 with hl | hl
        rotate_left
        · exact full h1 Y _ hf hy hl (by rw [hXY, List.append_assoc]) (d + 1) hs.1 (by omega)
        have hm1 := mo_fx.ok hf hm
        have hD1 := keepD h1 hf
        obtain ⟨d1, d2, d3, d4, d5, d6, d7⟩ := hD1.2 x hx
        have hc10 := (d6 (by omega)).1
        have hpart := (d6 (by omega)).2 i (by omega)
        have hs1 := hs.2 d (by omega)
        rw [hSd] at hs1
        have e0 : min Y.length 401 = Y.length := by omega
        refine jw_aload_n rfl rfl ?_
        refine jw_gi rfl g_M_131 hm1.1 hs.1 ?_
        refine jw_if_le 196 rfl rfl (fun z => absurd ((nI_leI (b := 0) (by omega) (by omega)).mp z) (by omega)) (fun _ => ?_)
        refine jw_aload_n rfl rfl ?_
        refine jw_gi rfl g_M_113 hm1.1 hy.1 ?_
        refine js_sipush (x := 401) rfl rfl ?_
        refine jw_icmp_ge 196 rfl rfl (fun z => absurd ((nI_leI (a := 401) (by omega) (by omega)).mp z) (by omega)) (fun _ => ?_)
        refine jw_aload_n rfl rfl ?_
        refine jw_gi rfl g_M_131 hm1.1 hs.1 ?_
        refine js_iconst (x := 1) rfl rfl ?_
        refine jw_isub rfl ?_
        rw [show nI (d + 1) - 1 = nI d from nI_pred d]
        refine js_istore_n rfl rfl (by decide) rfl ?_
        refine jw_aload_n rfl rfl ?_
        refine jw_gr rfl g_M_146 hm1.1 (mo_r hm1 30 rfl) ?_
        refine jw_iload_n rfl rfl ?_
        refine js_iald (d) rfl (mo_a hm1 30 rfl) (by decide) (by rfl)  rfl (by omega) (by decide) ?_
        rw [hs1.1]
        refine js_istore_n rfl rfl (by decide) rfl ?_
        refine jw_aload_n rfl rfl ?_
        refine jw_gr rfl g_M_149 hm1.1 (mo_r hm1 31 rfl) ?_
        refine jw_iload_n rfl rfl ?_
        refine js_iald (d) rfl (mo_a hm1 31 rfl) (by decide) (by rfl)  rfl (by omega) (by decide) ?_
        rw [hs1.2]
        refine js_istore rfl rfl (by decide) rfl ?_
        refine jw_iload rfl rfl ?_
        refine jw_aload_n rfl rfl ?_
        refine jw_gr rfl g_M_39 hm1.1 (mo_r hm1 2 rfl) ?_
        refine jw_iload_n rfl rfl ?_
        refine js_iald (x) rfl (mo_a hm1 2 rfl) (by decide) (by rfl)  rfl (by omega) (by decide) ?_
        rw [d3, d4 (by omega)]
        refine jw_icmp_ne 156 rfl rfl (fun _ => ?_) (fun z => absurd ((nI_eq (by omega) (by omega)).mp z) (by show ¬ i = sd_c D x; omega))
        have behind : ∀ h2, mo_fx h1 h2 mo ar rp_F rp_G → rw_ok h2 mo ar (Y ++ (if 0 < i then [44] else [])) → jw_J g 3 m_M_showRaw jw_T0 167 [some (.inr (.inr (some mo))), some (.inl (nI r)), some (.inl (nI d)), some (.inl (nI x)), some (.inl (nI i))] [] h2 0 0 Q := by
          intro h2 f2 hy2
          have hm2 := mo_fx.ok f2 hm1
          have hs2 := rs_fx hm f2 hs
          have hf2 : mo_fx h h2 mo ar rd_F rd_G := mo_fx.tr hf f2 (fun _ _ z => Or.inl z) (fun _ z => Or.inl z)
          have hD2 := keepD h2 hf2
          have hp2 := (((hD2.2 x hx).2.2.2.2.2.1) (by omega)).2 i (by omega)
          have hs3 := hs2.2 d (by omega)
          rw [hSd] at hs3
          refine jw_aload_n rfl rfl ?_
          refine jw_gr rfl g_M_149 hm2.1 (mo_r hm2 31 rfl) ?_
          refine jw_iload_n rfl rfl ?_
          refine jw_dup2 rfl rfl rfl ?_
          refine js_iald (d) rfl (mo_a hm2 31 rfl) (by decide) (by rfl)  rfl (by omega) (by decide) ?_
          rw [hs3.2]
          refine js_iconst (x := 1) rfl rfl ?_
          refine jw_iadd rfl ?_
          rw [show nI i + 1 = nI (i + 1) from nI_1 i]
          refine js_iast (d) rfl (mo_a hm2 31 rfl) (by decide) (by rfl)  rfl (by omega) (by decide) ?_
          refine jw_aload_n rfl rfl ?_
          refine jw_aload_n rfl rfl ?_
          refine jw_gr rfl g_M_45 (mo_sI hm2).1 (mo_r (mo_sI hm2) 4 rfl) ?_
          refine jw_iload_n rfl rfl ?_
          refine js_bipush (x := 10) rfl rfl ?_
          refine jw_imul rfl ?_
          refine jw_iload rfl rfl ?_
          rw [show nI x * 10 = nI (x * 10) from pk_mul x 10]
          refine jw_iadd rfl ?_
          rw [nI_add]
          refine js_iald (x * 10 + i) rfl (mo_a (mo_sI hm2) 4 rfl) (by decide) (by rfl)  rfl (by omega) (by decide) ?_
          rw [show jh_I (jh_sI h2 (ar 557) d (nI (i + 1))) (ar 523) (x * 10 + i) = nI (sd_p D x i) from (jh_u_a _ _ _ _ (mo_ne hm 4 31 rfl rfl (by decide))).trans hp2.1]
          generalize hh3 : jh_sI h2 (ar 557) d (nI (i + 1)) = h3
          have f3 : mo_fx h h3 mo ar rd_F rd_G := by rw [← hh3]; exact mo_fx.sI hf2 (Or.inr (Or.inr rfl))
          have hm3 := mo_fx.ok f3 hm
          have hD3 := keepD h3 f3
          have hy3 : rw_ok h3 mo ar (Y ++ (if 0 < i then [44] else [])) := by
            rw [← hh3]; exact ⟨hy2.1, fun j hj => by have := hy2.2 j hj; exact ⟨(jh_u_a _ _ _ _ (mo_ne hm 23 31 rfl rfl (by decide))).trans this.1, this.2⟩⟩
          have hs4 : rs_ok h3 mo ar (d + 1) (va_up S d (x, i + 1)) := by
            rw [← hh3]
            refine ⟨hs2.1, fun k hk => ?_⟩
            by_cases z : k = d
            · subst z; rw [va_up_self]; exact ⟨(jh_u_a _ _ _ _ (mo_ne hm 30 31 rfl rfl (by decide))).trans hs3.1, jh_u_s _ _ _ _⟩
            · rw [va_up_ne _ _ z]
              have := hs2.2 k hk
              exact ⟨(jh_u_a _ _ _ _ (mo_ne hm 30 31 rfl rfl (by decide))).trans this.1, (jh_u_k _ _ _ _ z).trans this.2⟩
          -- behind the element
          have next : ∀ h4, mo_fx h h4 mo ar rd_F rd_G → rw_ok h4 mo ar (Y ++ (if 0 < i then [44] else []) ++ sd_raw D (f + 1) (sd_p D x i)) → rs_ok h4 mo ar (d + 1) (va_up S d (x, i + 1)) → jw_J g 3 m_M_showRaw jw_T0 93 [some (.inr (.inr (some mo))), some (.inl (nI r)), none, none, none] [] h4 0 0 Q := by
            intro h4 f4 hy4 hs5
            refine ihm (i + 1) (by omega) d (va_up S d (x, i + 1)) _ Z h4 hdf f4 hy4 hs5 (va_up_self _ _ _) ?_ (fun h5 f5 hy5 hs6 => kk h5 f5 ?_ ⟨hs6.1, fun k hk => ?_⟩)
            · rw [hXY, sd_jn]; simp only [List.append_assoc]
            · rw [sd_jn]; simp only [List.append_assoc] at hy5 ⊢; exact hy5
            · have := hs6.2 k hk
              rw [va_up_ne _ _ (by omega)] at this
              exact this
          have dpy := hdx i (by omega)
          refine js_call (As := [.inl (nI (sd_p D x i))]) rfl l_M_rawData c_M_301 i_M_rawData s_M_rawData jc_o8 rfl hm3.1 rfl (cm_rawData hg hm3 hD3 hp2.2 hy3 hs4.1 (fun _ => by omega) (fun hk2 h4 f4 hy4 => ?_) (fun hk2 => ?_)) (by decide) (Nat.le_of_ble_eq_true rfl) (by omega) (by omega) rfl
          · refine jw_goto 93 rfl rfl ?_
            refine js_drop 2 rfl (js_drop 3 rfl (js_drop 4 rfl (next h4 (mo_fx.tr f3 f4 (fun _ _ z => Or.inl z) (fun _ z => Or.inl z)) ?_ (rs_fx hm f4 hs4))))
            have e : sd_raw D (f + 1) (sd_p D x i) = sd_now D (sd_p D x i) := by
              rw [sd_raw, sd_now]
              by_cases a0 : sd_k D (sd_p D x i) = 0
              · rw [if_pos a0, if_pos a0]
              · rw [if_neg a0, if_neg a0]
                by_cases a1 : sd_k D (sd_p D x i) = 1
                · rw [if_pos a1, if_pos a1]
                · rw [if_neg a1, if_neg a1]
                  have := (hD3.2 (sd_p D x i) hp2.2).2.1
                  rw [if_pos (by omega), if_pos (by omega)]
            rw [e]; exact hy4
          · refine jw_goto 93 rfl rfl ?_
            have eraw : sd_raw D (f + 1) (sd_p D x i) = sd_jn (fun j => sd_raw D f (sd_p D (sd_p D x i) j)) (sd_c D (sd_p D x i)) 0 := by
              rw [sd_raw, if_neg (by omega), if_neg (by omega), if_neg (by omega)]
            refine js_drop 2 rfl (js_drop 3 rfl (js_drop 4 rfl (ihf (sd_p D x i) hp2.2 hk2 (dpy (by omega)) (sd_c D (sd_p D x i)) 0 (by omega) (d + 1) (va_up (va_up S d (x, i + 1)) (d + 1) (sd_p D x i, 0)) (Y ++ (if 0 < i then [44] else [])) (sd_jn (fun j => sd_raw D (f + 1) (sd_p D x j)) m (i + 1) ++ Z) _ (by omega) (mo_fx.si (k := 551) (mo_fx.sI (k := 557) (mo_fx.sI (k := 556) f3 (Or.inr (Or.inl rfl))) (Or.inr (Or.inr rfl))) (Or.inr rfl)) ?_ ?_ (va_up_self _ _ _) ?_ (fun h5 f5 hy5 hs6 => next h5 f5 (by rw [eraw]; exact hy5) ⟨hs6.1, fun k hk => ?_⟩))))
            · exact ⟨(jh_u_k _ _ _ _ (by decide)).trans hy3.1, fun j hj => by have := hy3.2 j hj; exact ⟨(jh_u_a _ _ _ _ (mo_ne hm 23 31 rfl rfl (by decide))).trans ((jh_u_a _ _ _ _ (mo_ne hm 23 30 rfl rfl (by decide))).trans this.1), this.2⟩⟩
            · refine ⟨jh_u_s _ _ _ _, fun k hk => ?_⟩
              by_cases z : k = d + 1
              · subst z; rw [va_up_self]; exact ⟨(jh_u_a _ _ _ _ (mo_ne hm 30 31 rfl rfl (by decide))).trans (jh_u_s _ _ _ _), jh_u_s _ _ _ _⟩
              · rw [va_up_ne _ _ z]
                have := hs4.2 k (by omega)
                exact ⟨(jh_u_a _ _ _ _ (mo_ne hm 30 31 rfl rfl (by decide))).trans ((jh_u_k _ _ _ _ z).trans this.1), (jh_u_k _ _ _ _ z).trans ((jh_u_a _ _ _ _ (mo_ne hm 31 30 rfl rfl (by decide))).trans this.2)⟩
            · rw [hXY, sd_jn, eraw]; simp only [List.append_assoc]
            · have := hs6.2 k hk
              rw [va_up_ne _ _ (by omega)] at this
              exact this
        refine jw_iload rfl rfl ?_
        refine jw_if_le 167 rfl rfl (fun z => ?_) (fun z => ?_)
        · have h0 : i = 0 := by have := (nI_leI (b := 0) (by omega) (by omega)).mp z; omega
          exact behind h1 mo_fx.rf (by rw [if_neg (by omega), List.append_nil]; exact hy)
        · have h0 : 0 < i := Nat.pos_of_ne_zero (fun e => z (by show nI i ≤ 0; rw [e]; decide))
          refine jw_aload_n rfl rfl ?_
          refine js_bipush (x := 44) rfl rfl ?_
          refine js_call (As := [.inl 44]) rfl l_M_rawPut c_M_285 i_M_rawPut s_M_rawPut jc_o8 rfl hm1.1 rfl (cm_rawPut hg hm1 (c := 44) (by decide) hy (fun h2 f2 x2 => ?_)) (by decide) (Nat.le_of_ble_eq_true rfl) (by omega) (by omega) rfl
          exact behind h2 f2 (by rw [if_pos h0]; exact x2)
  have zero : ∀ h1, mo_fx h h1 mo ar rd_F rd_G → rw_ok h1 mo ar X → jh_i h1 mo 551 = nI 0 → ∀ a, jw_J g 3 m_M_showRaw jw_T0 93 [some (.inr (.inr (some mo))), some (.inl (nI r)), a, none, none] [] h1 0 0 Q := by
    intro h1 hf hx hd a
    have hm1 := mo_fx.ok hf hm
    refine jw_aload_n rfl rfl ?_
    refine jw_gi rfl g_M_131 hm1.1 hd ?_
    refine jw_if_le 196 rfl rfl (fun _ => at196 h1 hf hx _ _ _) (fun z => absurd (by decide) z)
  have f0 : mo_fx h (jh_si (jh_si h mo 545 0) mo 551 0) mo ar rd_F rd_G := mo_fx.si (k := 551) (mo_fx.si (k := 545) mo_fx.rf (Or.inl rfl)) (Or.inr rfl)
  have x0 : rw_ok (jh_si (jh_si h mo 545 0) mo 551 0) mo ar [] := ⟨(jh_u_k _ _ _ _ (by decide)).trans (jh_u_s _ _ _ _), fun j hj => absurd hj (by simp)⟩
  have s0 : jh_i (jh_si (jh_si h mo 545 0) mo 551 0) mo 551 = nI 0 := jh_u_s _ _ _ _
  refine jw_aload_n rfl rfl ?_
  refine js_iconst (x := 0) rfl rfl ?_
  refine jw_pi rfl p_M_showRaw_113 hm.1 ?_
  refine jw_aload_n rfl rfl ?_
  refine js_iconst (x := 0) rfl rfl ?_
  refine jw_pi rfl p_M_showRaw_131 (mo_si hm).1 ?_
  generalize hh0 : jh_si (jh_si h mo 545 0) mo 551 0 = h0 at f0 x0 s0
  have eI : jh_I h0 = jh_I h := by rw [← hh0]; rfl
  have hm0 := mo_fx.ok f0 hm
  have rdI : ∀ h1, mo_fx h0 h1 mo ar rp_F rp_G → ∀ (i : Nat) {K t nn j : Nat}, mo_T[i]? = some (K, t, nn) → K ≠ 542 → jh_I h1 (ar K) j = jh_I h (ar K) j := by
    intro h1 hf i K t nn j hi hK
    rw [mo_fx.rd hm hf i hi (fun q z => ⟨fun e => hK (e ▸ z), (rd_F_in (j := j) (Or.inl z)).2⟩), eI]
  have rd551 : ∀ h1, mo_fx h0 h1 mo ar rp_F rp_G → jh_i h1 mo 551 = nI 0 := fun h1 hf => by rw [mo_fx.rdi hf (by unfold rp_G; decide)]; exact s0
  have fr : ∀ h1, mo_fx h0 h1 mo ar rp_F rp_G → mo_fx h h1 mo ar rd_F rd_G := fun h1 hf => mo_fx.tr f0 hf (fun _ _ z => Or.inl z) (fun _ z => Or.inl z)
  -- from 29 on, neither a TEXT nor DATA
  have at73 : ∀ h1 w a, mo_fx h0 h1 mo ar rp_F rp_G → jh_I h (ar 538) r = w → w ≤ 1 → rw_ok h1 mo ar X → jw_J g 3 m_M_showRaw jw_T0 73 [some (.inr (.inr (some mo))), some (.inl (nI r)), a, none, none] [] h1 0 0 Q := by
    intro h1 w a hf hw hw1 hx
    have hm1 := mo_fx.ok hf hm0
    refine jw_aload_n rfl rfl ?_
    refine jw_gr rfl g_M_92 hm1.1 (mo_r hm1 19 rfl) ?_
    refine jw_iload_n rfl rfl ?_
    refine js_iald (r) rfl (mo_a hm1 19 rfl) (by decide) (by rfl)  rfl (by omega) (by decide) ?_
    rw [rdI h1 hf 19 rfl (by decide), hw]
    refine js_iconst (x := 1) rfl rfl ?_
    refine jw_icmp_le 93 rfl rfl (fun _ => zero h1 (fr h1 hf) hx (rd551 h1 hf) a) (fun z => absurd hw1 z)
  have at29 : ∀ h1 w, mo_fx h0 h1 mo ar rp_F rp_G → jh_I h (ar 538) r = w → w ≤ 0 → rw_ok h1 mo ar X → jw_J g 3 m_M_showRaw jw_T0 29 [some (.inr (.inr (some mo))), some (.inl (nI r)), none, none, none] [] h1 0 0 Q := by
    intro h1 w hf hw hw1 hx
    have hm1 := mo_fx.ok hf hm0
    refine jw_aload_n rfl rfl ?_
    refine jw_gr rfl g_M_92 hm1.1 (mo_r hm1 19 rfl) ?_
    refine jw_iload_n rfl rfl ?_
    refine js_iald (r) rfl (mo_a hm1 19 rfl) (by decide) (by rfl)  rfl (by omega) (by decide) ?_
    rw [rdI h1 hf 19 rfl (by decide), hw]
    refine js_iconst (x := 1) rfl rfl ?_
    refine jw_icmp_ne 73 rfl rfl (fun _ => at73 h1 w none hf hw (Int32.le_trans hw1 (by decide)) hx) (fun z => absurd (z ▸ hw1) (by decide))
  refine jw_aload_n rfl rfl ?_
  refine jw_gr rfl g_M_92 hm0.1 (mo_r hm0 19 rfl) ?_
  refine jw_iload_n rfl rfl ?_
  refine js_iald (r) rfl (mo_a hm0 19 rfl) (by decide) (by rfl)  rfl (by omega) (by decide) ?_
  rw [eI]
  rcases v with _ | v | L | x
  · have hw : jh_I h (ar 538) r = -1 := hv
    rw [hw]
    refine jw_if_ne 29 rfl rfl (fun _ => ?_) (fun z => absurd z (by decide))
    exact at29 h0 (-1) mo_fx.rf hw (by decide) (by rw [← hX]; exact x0)
  · obtain ⟨hw, hnum⟩ : jh_I h (ar 538) r = 0 ∧ jh_I h (ar 539) r = v := hv
    rw [hw]
    refine jw_if_ne 29 rfl rfl (fun z => absurd rfl z) (fun _ => ?_)
    refine jw_aload_n rfl rfl ?_
    refine jw_aload_n rfl rfl ?_
    refine jw_gr rfl g_M_95 hm0.1 (mo_r hm0 20 rfl) ?_
    refine jw_iload_n rfl rfl ?_
    refine js_iald (r) rfl (mo_a hm0 20 rfl) (by decide) (by rfl)  rfl (by omega) (by decide) ?_
    rw [eI, hnum]
    refine js_call (As := [.inl v]) rfl l_M_rawNumber c_M_295 i_M_rawNumber s_M_rawNumber jc_o8 rfl hm0.1 rfl (cm_rawNumber hg hm0 x0 (fun h1 f1 x1 => ?_)) (by decide) (Nat.le_of_ble_eq_true rfl) (by omega) (by omega) rfl
    exact at29 h1 0 f1 hw (by decide) (by rw [← hX]; exact x1)
  · obtain ⟨hw, hsz, hL, hch⟩ : jh_I h (ar 538) r = 1 ∧ jh_I h (ar 540) r = nI L.length ∧ L.length ≤ 400 ∧ ∀ j, j < L.length → jh_I h (ar 541) (r * 400 + j) = nI (L.getD j 0) ∧ L.getD j 0 < 128 := hv
    have eX : X = L := hX.symm
    rw [hw]
    refine jw_if_ne 29 rfl rfl (fun _ => ?_) (fun z => absurd z (by decide))
    refine jw_aload_n rfl rfl ?_
    refine jw_gr rfl g_M_92 hm0.1 (mo_r hm0 19 rfl) ?_
    refine jw_iload_n rfl rfl ?_
    refine js_iald (r) rfl (mo_a hm0 19 rfl) (by decide) (by rfl)  rfl (by omega) (by decide) ?_
    rw [eI, hw]
    refine js_iconst (x := 1) rfl rfl ?_
    refine jw_icmp_ne 73 rfl rfl (fun z => absurd rfl z) (fun _ => ?_)
    have loop : ∀ m j h1, j + m = L.length → mo_fx h0 h1 mo ar rp_F rp_G → rw_ok h1 mo ar (L.take j) → jw_J g 3 m_M_showRaw jw_T0 41 [some (.inr (.inr (some mo))), some (.inl (nI r)), some (.inl (nI j)), none, none] [] h1 0 0 Q := by
      intro m
      induction m with
      | zero =>
        intro j h1 hj hf hx
        have hm1 := mo_fx.ok hf hm0
        refine jw_iload_n rfl rfl ?_
        refine jw_aload_n rfl rfl ?_
        refine jw_gr rfl g_M_98 hm1.1 (mo_r hm1 21 rfl) ?_
        refine jw_iload_n rfl rfl ?_
        refine js_iald (r) rfl (mo_a hm1 21 rfl) (by decide) (by rfl)  rfl (by omega) (by decide) ?_
        rw [rdI h1 hf 21 rfl (by decide), hsz]
        refine jw_icmp_ge 73 rfl rfl (fun _ => ?_) (fun z => absurd ((nI_leI (by omega) (by omega)).mpr (by omega)) z)
        exact at73 h1 1 _ hf hw (by decide) (by rw [eX, ← List.take_of_length_le (show L.length ≤ j by omega)]; exact hx)
      | succ m ih =>
        intro j h1 hj hf hx
        have hm1 := mo_fx.ok hf hm0
        have hc := hch j (by omega)
        refine jw_iload_n rfl rfl ?_
        refine jw_aload_n rfl rfl ?_
        refine jw_gr rfl g_M_98 hm1.1 (mo_r hm1 21 rfl) ?_
        refine jw_iload_n rfl rfl ?_
        refine js_iald (r) rfl (mo_a hm1 21 rfl) (by decide) (by rfl)  rfl (by omega) (by decide) ?_
        rw [rdI h1 hf 21 rfl (by decide), hsz]
        refine jw_icmp_ge 73 rfl rfl (fun z => absurd ((nI_leI (by omega) (by omega)).mp z) (by omega)) (fun _ => ?_)
        refine jw_aload_n rfl rfl ?_
        refine jw_aload_n rfl rfl ?_
        refine jw_gr rfl g_M_101 hm1.1 (mo_r hm1 22 rfl) ?_
        refine jw_iload_n rfl rfl ?_
        refine js_sipush (x := 400) rfl rfl ?_
        refine jw_imul rfl ?_
        refine jw_iload_n rfl rfl ?_
        rw [show nI r * 400 = nI (r * 400) from pk_mul r 400]
        refine jw_iadd rfl ?_
        rw [nI_add]
        refine js_cald (r * 400 + j) rfl (mo_a hm1 22 rfl) (by decide) (by rfl)  rfl (by omega) (by decide) ?_
        rw [rdI h1 hf 22 rfl (by decide), hc.1]
        refine js_call (As := [.inl (nI (L.getD j 0))]) rfl l_M_rawPut c_M_285 i_M_rawPut s_M_rawPut jc_o8 rfl hm1.1 rfl (cm_rawPut hg hm1 hc.2 hx (fun h2 f2 x2 => ?_)) (by decide) (Nat.le_of_ble_eq_true rfl) (by omega) (by omega) rfl
        refine js_iinc rfl rfl (nI_1 j) rfl (by decide) rfl ?_
        refine jw_goto 41 rfl rfl ?_
        refine ih (j + 1) h2 (by omega) (mo_fx.tr hf f2 (fun _ _ z => z) (fun _ z => z)) ?_
        rw [List.take_add_one, List.getElem?_eq_getElem (show j < L.length by omega)]
        rw [List.getD_eq_getElem?_getD, List.getElem?_eq_getElem (show j < L.length by omega)] at x2
        exact x2
    refine js_iconst (x := 0) rfl rfl ?_
    refine js_istore_n rfl rfl (by decide) rfl ?_
    exact loop L.length 0 h0 (by omega) mo_fx.rf x0
  · obtain ⟨hw, hnum, hxn, hk2⟩ : jh_I h (ar 538) r = nI (sd_k D x) ∧ jh_I h (ar 539) r = nI x ∧ x < n ∧ 2 ≤ sd_k D x := hv
    have hD0 := keepD h0 f0
    have hk3 := (hD0.2 x hxn).2.1
    have eX : X = sd_raw D 60 x := hX.symm
    rw [hw]
    refine jw_if_ne 29 rfl rfl (fun _ => ?_) (fun z => absurd ((nI_eq (b := 0) (by omega) (by omega)).mp z) (by omega))
    refine jw_aload_n rfl rfl ?_
    refine jw_gr rfl g_M_92 hm0.1 (mo_r hm0 19 rfl) ?_
    refine jw_iload_n rfl rfl ?_
    refine js_iald (r) rfl (mo_a hm0 19 rfl) (by decide) (by rfl)  rfl (by omega) (by decide) ?_
    rw [eI, hw]
    refine js_iconst (x := 1) rfl rfl ?_
    refine jw_icmp_ne 73 rfl rfl (fun _ => ?_) (fun z => absurd ((nI_eq (b := 1) (by omega) (by omega)).mp z) (by omega))
    refine jw_aload_n rfl rfl ?_
    refine jw_gr rfl g_M_92 hm0.1 (mo_r hm0 19 rfl) ?_
    refine jw_iload_n rfl rfl ?_
    refine js_iald (r) rfl (mo_a hm0 19 rfl) (by decide) (by rfl)  rfl (by omega) (by decide) ?_
    rw [eI, hw]
    refine js_iconst (x := 1) rfl rfl ?_
    refine jw_icmp_le 93 rfl rfl (fun z => absurd ((nI_leI (b := 1) (by omega) (by omega)).mp z) (by omega)) (fun _ => ?_)
    refine jw_aload_n rfl rfl ?_
    refine jw_aload_n rfl rfl ?_
    refine jw_gr rfl g_M_95 hm0.1 (mo_r hm0 20 rfl) ?_
    refine jw_iload_n rfl rfl ?_
    refine js_iald (r) rfl (mo_a hm0 20 rfl) (by decide) (by rfl)  rfl (by omega) (by decide) ?_
    rw [eI, hnum]
    refine js_call (As := [.inl (nI x)]) rfl l_M_rawData c_M_301 i_M_rawData s_M_rawData jc_o8 rfl hm0.1 rfl (cm_rawData hg hm0 hD0 hxn x0 s0 (fun _ => by omega) (fun hk h1 f1 x1 => ?_) (fun hk => ?_)) (by decide) (Nat.le_of_ble_eq_true rfl) (by omega) (by omega) rfl
    · refine zero h1 (fr h1 f1) ?_ (rd551 h1 f1) none
      rw [eX, sd_raw, if_neg (by omega), if_neg (by omega), if_pos (by omega)]
      rw [sd_now, if_neg (by omega), if_neg (by omega), if_pos (by omega)] at x1
      exact x1
    · refine lst 59 x hxn hk (hdp x hxn (by omega)) (sd_c D x) 0 (by omega) 0 (fun _ => (x, 0)) [] [] _ (by omega) (mo_fx.si (k := 551) (mo_fx.sI (k := 557) (mo_fx.sI (k := 556) f0 (Or.inr (Or.inl rfl))) (Or.inr (Or.inr rfl))) (Or.inr rfl)) ?_ ?_ rfl ?_ (fun h2 f2 x2 s2 => zero h2 f2 ?_ s2.1 none)
      · exact ⟨(jh_u_k _ _ _ _ (by decide)).trans x0.1, fun j hj => absurd hj (by simp)⟩
      · refine ⟨jh_u_s _ _ _ _, fun k hk => ?_⟩
        have ek : k = 0 := by omega
        subst ek
        exact ⟨(jh_u_a _ _ _ _ (mo_ne hm 30 31 rfl rfl (by decide))).trans (jh_u_s _ _ _ _), jh_u_s _ _ _ _⟩
      · rw [eX, sd_raw, if_neg (by omega), if_neg (by omega), if_neg (by omega), List.append_nil, List.nil_append]
      · rw [eX, sd_raw, if_neg (by omega), if_neg (by omega), if_neg (by omega)]; exact x2
end
section
/-! registers: lengths, truth, loading -/
def sv_len (D : sd_D) (v : sv_T) : Nat := match v with
  | none => 0
  | some (.inl x) => (sd_num x).length
  | some (.inr (.inl L)) => L.length
  | some (.inr (.inr x)) => sd_c D x
def sv_false (D : sd_D) (v : sv_T) : Bool := match v with
  | none => true
  | some (.inl x) => decide (x = 0)
  | some (.inr (.inl L)) => decide (L.length = 0)
  | some (.inr (.inr x)) => decide (sd_k D x = 2 ∧ sd_c D x = 0)
theorem sd_u_len (a : Nat) : ∀ m, (sd_u a m).length = m + 1 := by
  intro m
  induction m with
  | zero => rfl
  | succ m ih => rw [sd_u, List.length_cons, ih]
theorem sd_m_le : ∀ f a, sd_m f a ≤ f := by
  intro f
  induction f with
  | zero => intro a; exact Nat.le_refl _
  | succ f ih =>
    intro a
    rw [sd_m]
    split
    · omega
    · have := ih (a / 10); omega
theorem sd_num_len (v : Int32) : (sd_num v).length ≤ 12 ∧ 0 < (sd_num v).length := by
  have h1 : (sd_nat (sd_abs v)).length ≤ 11 ∧ 0 < (sd_nat (sd_abs v)).length := by
    rw [sd_nat, sd_u_len]; have := sd_m_le 10 (sd_abs v); omega
  rw [sd_num]
  split
  · rw [List.length_cons]; omega
  · omega
theorem mo_fx.sr {h h' : jh_H} {mo : Nat} {ar : Nat → Nat} {F : Nat → Nat → Prop} (a : mo_fx h h' mo ar F sr_G) (e : jh_i h' mo 550 = jh_i h mo 550) : mo_fx h h' mo ar F rd_G := by
  obtain ⟨a1, a2, a3, a4, a5, a6, a7, a8⟩ := a
  refine ⟨a1, a2, a3, a4, a5, a6, fun b k hk => ?_, a8⟩
  by_cases z : b = mo ∧ k = 550
  · rw [z.1, z.2]; exact e
  · refine a7 b k (fun eb hs => ?_)
    rcases hs with hs | hs
    · exact hk eb hs
    · exact z ⟨eb, hs⟩
set_option maxHeartbeats 4000000 in
set_option maxRecDepth 100000 in
theorem cm_lengthOf {g : jg_G} (hg : (jg_l g).stackTraces = false) {h : jh_H} {mo : Nat} {ar : Nat → Nat} {n r : Nat} {D : sd_D} {v : sv_T} {Q : jw_O → jh_H → Prop} (hm : mo_ok h mo ar) (hD : mo_D h ar n D) (hdp : ∀ x, x < n → sd_dp D 60 x) (hr : r < 18) (hv : mo_R h ar n D r v)
    (hq : ∀ h', mo_fx h h' mo ar rd_F rd_G → Q (.inl (some (.inl (nI (sv_len D v))))) h') : jw_C g 4 0 0 m_M_lengthOf [.inr (.inr (some mo)), .inl (nI r)] h Q := by
  refine jw_intro (ls := [some (.inr (.inr (some mo))), some (.inl (nI r))]) (by decide) k_M_lengthOf rfl (by simp [lo_fit, jv_c]) hg ?_
  refine jw_aload_n rfl rfl ?_
  refine jw_gr rfl g_M_92 hm.1 (mo_r hm 19 rfl) ?_
  refine jw_iload_n rfl rfl ?_
  refine js_iald (r) rfl (mo_a hm 19 rfl) (by decide) (by rfl)  rfl (by omega) (by decide) ?_
  rcases v with _ | v | L | x
  · have hw : jh_I h (ar 538) r = -1 := hv
    rw [hw]
    refine jw_if_ge 11 rfl rfl (fun z => absurd z (by decide)) (fun _ => ?_)
    refine js_iconst (x := 0) rfl rfl ?_
    refine jw_ireturn rfl rfl rfl ?_
    exact hq h mo_fx.rf
  · have hv2 := hv
    obtain ⟨hw, hnum⟩ : jh_I h (ar 538) r = 0 ∧ jh_I h (ar 539) r = v := hv
    rw [hw]
    refine jw_if_ge 11 rfl rfl (fun _ => ?_) (fun z => absurd (by decide) z)
    refine jw_aload_n rfl rfl ?_
    refine jw_gr rfl g_M_92 hm.1 (mo_r hm 19 rfl) ?_
    refine jw_iload_n rfl rfl ?_
    refine js_iald (r) rfl (mo_a hm 19 rfl) (by decide) (by rfl)  rfl (by omega) (by decide) ?_
    rw [hw]
    refine js_iconst (x := 1) rfl rfl ?_
    refine jw_icmp_ne 28 rfl rfl (fun _ => ?_) (fun z => absurd z (by decide))
    refine jw_aload_n rfl rfl ?_
    refine jw_gr rfl g_M_92 hm.1 (mo_r hm 19 rfl) ?_
    refine jw_iload_n rfl rfl ?_
    refine js_iald (r) rfl (mo_a hm 19 rfl) (by decide) (by rfl)  rfl (by omega) (by decide) ?_
    rw [hw]
    refine js_iconst (x := 1) rfl rfl ?_
    refine jw_icmp_le 50 rfl rfl (fun _ => ?_) (fun z => absurd (by decide) z)
    refine jw_aload_n rfl rfl ?_
    refine jw_iload_n rfl rfl ?_
    refine js_call (As := [.inl (nI r)]) rfl l_M_showRaw c_M_304 i_M_showRaw s_M_showRaw jc_o8 rfl hm.1 rfl (cm_showRaw hg hm hD hdp hr hv2 (fun h' f' x' e' => ?_)) (by decide) (Nat.le_of_ble_eq_true rfl) (by omega) (by omega) rfl
    have hl := sd_num_len v
    have x1 : jh_i h' mo 545 = nI (sd_num v).length := by
      have := x'.1
      rw [this]; congr 1
      show min (sd_num v).length 401 = _
      omega
    have e1 : jh_i h' mo 550 = jh_i h mo 550 := by
      rw [e']; exact if_neg (by show ¬ 400 < (sd_num v).length; omega)
    have hm' := mo_fx.ok f' hm
    refine jw_aload_n rfl rfl ?_
    refine jw_gi rfl g_M_113 hm'.1 x1 ?_
    refine jw_ireturn rfl rfl rfl ?_
    exact hq h' (mo_fx.sr f' e1)
  · obtain ⟨hw, hsz, hL, hch⟩ : jh_I h (ar 538) r = 1 ∧ jh_I h (ar 540) r = nI L.length ∧ L.length ≤ 400 ∧ ∀ j, j < L.length → jh_I h (ar 541) (r * 400 + j) = nI (L.getD j 0) ∧ L.getD j 0 < 128 := hv
    rw [hw]
    refine jw_if_ge 11 rfl rfl (fun _ => ?_) (fun z => absurd (by decide) z)
    refine jw_aload_n rfl rfl ?_
    refine jw_gr rfl g_M_92 hm.1 (mo_r hm 19 rfl) ?_
    refine jw_iload_n rfl rfl ?_
    refine js_iald (r) rfl (mo_a hm 19 rfl) (by decide) (by rfl)  rfl (by omega) (by decide) ?_
    rw [hw]
    refine js_iconst (x := 1) rfl rfl ?_
    refine jw_icmp_ne 28 rfl rfl (fun z => absurd rfl z) (fun _ => ?_)
    refine jw_aload_n rfl rfl ?_
    refine jw_gr rfl g_M_98 hm.1 (mo_r hm 21 rfl) ?_
    refine jw_iload_n rfl rfl ?_
    refine js_iald (r) rfl (mo_a hm 21 rfl) (by decide) (by rfl)  rfl (by omega) (by decide) ?_
    rw [hsz]
    refine jw_ireturn rfl rfl rfl ?_
    exact hq h mo_fx.rf
  · obtain ⟨hw, hnum, hxn, hk2⟩ : jh_I h (ar 538) r = nI (sd_k D x) ∧ jh_I h (ar 539) r = nI x ∧ x < n ∧ 2 ≤ sd_k D x := hv
    have hn60 := hD.1
    obtain ⟨d1, d2, d3, d4, d5, d6, d7⟩ := hD.2 x hxn
    rw [hw]
    refine jw_if_ge 11 rfl rfl (fun _ => ?_) (fun z => absurd (nI_pos' (by omega)) z)
    refine jw_aload_n rfl rfl ?_
    refine jw_gr rfl g_M_92 hm.1 (mo_r hm 19 rfl) ?_
    refine jw_iload_n rfl rfl ?_
    refine js_iald (r) rfl (mo_a hm 19 rfl) (by decide) (by rfl)  rfl (by omega) (by decide) ?_
    rw [hw]
    refine js_iconst (x := 1) rfl rfl ?_
    refine jw_icmp_ne 28 rfl rfl (fun _ => ?_) (fun z => absurd ((nI_eq (b := 1) (by omega) (by omega)).mp z) (by omega))
    refine jw_aload_n rfl rfl ?_
    refine jw_gr rfl g_M_92 hm.1 (mo_r hm 19 rfl) ?_
    refine jw_iload_n rfl rfl ?_
    refine js_iald (r) rfl (mo_a hm 19 rfl) (by decide) (by rfl)  rfl (by omega) (by decide) ?_
    rw [hw]
    refine js_iconst (x := 1) rfl rfl ?_
    refine jw_icmp_le 50 rfl rfl (fun z => absurd ((nI_leI (b := 1) (by omega) (by omega)).mp z) (by omega)) (fun _ => ?_)
    refine jw_aload_n rfl rfl ?_
    refine jw_gr rfl g_M_39 hm.1 (mo_r hm 2 rfl) ?_
    refine jw_aload_n rfl rfl ?_
    refine jw_gr rfl g_M_95 hm.1 (mo_r hm 20 rfl) ?_
    refine jw_iload_n rfl rfl ?_
    refine js_iald (r) rfl (mo_a hm 20 rfl) (by decide) (by rfl)  rfl (by omega) (by decide) ?_
    rw [hnum]
    refine js_iald (x) rfl (mo_a hm 2 rfl) (by decide) (by rfl)  rfl (by omega) (by decide) ?_
    rw [d3, d4 (by omega)]
    refine jw_ireturn rfl rfl rfl ?_
    exact hq h mo_fx.rf
end
section
/-! rules with what they read; registers loaded and copied -/
section JWV
variable {g : jg_G} {d : Nat} {M : jw_M} {T : Code → Prop} {pc : Nat} {ls : List (Option jV)} {st : List jV} {h : jh_H} {kc ks : Nat} {Q : jw_O → jh_H → Prop}
theorem js_caldV {a t n : Nat} {i x : Int32} (j : Nat) (hd : M.2.2.2.2 pc = some (.caload, 1)) (ho : jh_A h a t n) (ht : t < jc_an) (hty : jc_at t = .char) (hi : i = nI j) (hj : j < n) (hn : n < 2 ^ 31) (hv : jh_I h a j = x) (kk : jw_J g d M T (pc + 1) ls (.inl x :: st) h kc ks Q) : jw_J g d M T pc ls (.inl i :: .inr (.inr (some a)) :: st) h kc ks Q := js_cald j hd ho ht hty hi hj hn (by rw [hv]; exact kk)
theorem js_ialdV {a t n : Nat} {i x : Int32} (j : Nat) (hd : M.2.2.2.2 pc = some (.iaload, 1)) (ho : jh_A h a t n) (ht : t < jc_an) (hty : jc_at t = .int) (hi : i = nI j) (hj : j < n) (hn : n < 2 ^ 31) (hv : jh_I h a j = x) (kk : jw_J g d M T (pc + 1) ls (.inl x :: st) h kc ks Q) : jw_J g d M T pc ls (.inl i :: .inr (.inr (some a)) :: st) h kc ks Q := js_iald j hd ho ht hty hi hj hn (by rw [hv]; exact kk)
theorem js_zaldV {a t n : Nat} {i x : Int32} (j : Nat) (hd : M.2.2.2.2 pc = some (.baload, 1)) (ho : jh_A h a t n) (ht : t < jc_an) (hty : jc_at t = .boolean) (hi : i = nI j) (hj : j < n) (hn : n < 2 ^ 31) (hv : jh_I h a j = x) (kk : jw_J g d M T (pc + 1) ls (.inl x :: st) h kc ks Q) : jw_J g d M T pc ls (.inl i :: .inr (.inr (some a)) :: st) h kc ks Q := js_zald j hd ho ht hty hi hj hn (by rw [hv]; exact kk)
theorem js_laldV {a t n : Nat} {i : Int32} {x : Int64} (j : Nat) (hd : M.2.2.2.2 pc = some (.laload, 1)) (ho : jh_A h a t n) (ht : t < jc_an) (hty : jc_at t = .long) (hi : i = nI j) (hj : j < n) (hn : n < 2 ^ 31) (hv : jh_G h a j = x) (kk : jw_J g d M T (pc + 1) ls (.inr (.inl x) :: st) h kc ks Q) : jw_J g d M T pc ls (.inl i :: .inr (.inr (some a)) :: st) h kc ks Q := js_lald j hd ho ht hty hi hj hn (by rw [hv]; exact kk)
theorem jw_iaddV {x y z : Int32} (hd : M.2.2.2.2 pc = some (.iadd, 1)) (e : x + y = z) (k : jw_J g d M T (pc + 1) ls (.inl z :: st) h kc ks Q) : jw_J g d M T pc ls (.inl y :: .inl x :: st) h kc ks Q := jw_iadd hd (by rw [e]; exact k)
theorem jw_isubV {x y z : Int32} (hd : M.2.2.2.2 pc = some (.isub, 1)) (e : x - y = z) (k : jw_J g d M T (pc + 1) ls (.inl z :: st) h kc ks Q) : jw_J g d M T pc ls (.inl y :: .inl x :: st) h kc ks Q := jw_isub hd (by rw [e]; exact k)
theorem jw_imulV {x y z : Int32} (hd : M.2.2.2.2 pc = some (.imul, 1)) (e : x * y = z) (k : jw_J g d M T (pc + 1) ls (.inl z :: st) h kc ks Q) : jw_J g d M T pc ls (.inl y :: .inl x :: st) h kc ks Q := jw_imul hd (by rw [e]; exact k)
theorem jw_iandV {x y z : Int32} (hd : M.2.2.2.2 pc = some (.iand, 1)) (e : x &&& y = z) (k : jw_J g d M T (pc + 1) ls (.inl z :: st) h kc ks Q) : jw_J g d M T pc ls (.inl y :: .inl x :: st) h kc ks Q := jw_iand hd (by rw [e]; exact k)
theorem jw_idivV {x y z : Int32} (hd : M.2.2.2.2 pc = some (.idiv, 1)) (hne : ¬ y = 0) (e : x / y = z) (k : jw_J g d M T (pc + 1) ls (.inl z :: st) h kc ks Q) : jw_J g d M T pc ls (.inl y :: .inl x :: st) h kc ks Q := jw_idiv hd hne (by rw [e]; exact k)
theorem jw_iremV {x y z : Int32} (hd : M.2.2.2.2 pc = some (.irem, 1)) (hne : ¬ y = 0) (e : x - x / y * y = z) (k : jw_J g d M T (pc + 1) ls (.inl z :: st) h kc ks Q) : jw_J g d M T pc ls (.inl y :: .inl x :: st) h kc ks Q := jw_irem hd hne (by rw [e]; exact k)
theorem jw_i2cV {x z : Int32} (hd : M.2.2.2.2 pc = some (.i2c, 1)) (e : (x.toUInt32 % 65536).toInt32 = z) (k : jw_J g d M T (pc + 1) ls (.inl z :: st) h kc ks Q) : jw_J g d M T pc ls (.inl x :: st) h kc ks Q := jw_i2c hd (by rw [e]; exact k)
theorem jw_laddV {x y z : Int64} (hd : M.2.2.2.2 pc = some (.ladd, 1)) (e : x + y = z) (k : jw_J g d M T (pc + 1) ls (.inr (.inl z) :: st) h kc ks Q) : jw_J g d M T pc ls (.inr (.inl y) :: .inr (.inl x) :: st) h kc ks Q := jw_ladd hd (by rw [e]; exact k)
theorem jw_lsubV {x y z : Int64} (hd : M.2.2.2.2 pc = some (.lsub, 1)) (e : x - y = z) (k : jw_J g d M T (pc + 1) ls (.inr (.inl z) :: st) h kc ks Q) : jw_J g d M T pc ls (.inr (.inl y) :: .inr (.inl x) :: st) h kc ks Q := jw_lsub hd (by rw [e]; exact k)
theorem jw_lmulV {x y z : Int64} (hd : M.2.2.2.2 pc = some (.lmul, 1)) (e : x * y = z) (k : jw_J g d M T (pc + 1) ls (.inr (.inl z) :: st) h kc ks Q) : jw_J g d M T pc ls (.inr (.inl y) :: .inr (.inl x) :: st) h kc ks Q := jw_lmul hd (by rw [e]; exact k)
end JWV
theorem nI_c {c : Nat} (hc : c < 65536) : ((nI c).toUInt32 % 65536).toInt32 = nI c := by
  apply Int32.toBitVec_inj.mp
  apply BitVec.eq_of_toNat_eq
  simp [nI]
  omega
theorem nI_n {c : Nat} (hc : c < 65536) : vp_nar .char (nI c) = nI c := nI_c hc
/-- a row is not another -/
theorem mo_rs {h h0 : jh_H} {mo : Nat} {ar : Nat → Nat} (hm : mo_ok h0 mo ar) (i j : Nat) {k t n k' t' n' : Nat} (hi : mo_T[i]? = some (k, t, n)) (hj : mo_T[j]? = some (k', t', n')) (hk : k ≠ k') {x y : Nat} {v : Int32} : jh_I (jh_sI h (ar k') y v) (ar k) x = jh_I h (ar k) x := jh_u_a _ _ _ _ (mo_ne hm i j hi hj hk)
def rg_F (r k j : Nat) : Prop := ((k = 538 ∨ k = 539 ∨ k = 540) ∧ j = r) ∨ (k = 541 ∧ r * 400 ≤ j ∧ j < r * 400 + 400)
def no_G (_k : Nat) : Prop := False
theorem rg_F_in {r k j : Nat} (h : rg_F r k j) : ∃ x ∈ mo_T, x.1 = k := by
  rcases h with ⟨rfl | rfl | rfl, -⟩ | ⟨rfl, -⟩
  · exact ⟨(538, 1, 18), by decide, rfl⟩
  · exact ⟨(539, 1, 18), by decide, rfl⟩
  · exact ⟨(540, 1, 18), by decide, rfl⟩
  · exact ⟨(541, 0, 7200), by decide, rfl⟩
theorem rg_F_k {r k j : Nat} (h : rg_F r k j) : 538 ≤ k ∧ k ≤ 541 := by
  rcases h with ⟨rfl | rfl | rfl, -⟩ | ⟨rfl, -⟩ <;> omega
/-- a register that isn't written keeps its value -/
theorem mo_R.fx {h h' h0 : jh_H} {mo : Nat} {ar : Nat → Nat} {F : Nat → Nat → Prop} {G : Nat → Prop} {n : Nat} {D : sd_D} {s : Nat} {v : sv_T} (hm : mo_ok h0 mo ar) (hf : mo_fx h h' mo ar F G) (hF : ∀ k j, F k j → (∃ x ∈ mo_T, x.1 = k) ∧ ¬ rg_F s k j) (hs : s < 18) (hv : mo_R h ar n D s v) : mo_R h' ar n D s v := by
  have e0 : jh_I h' (ar 538) s = jh_I h (ar 538) s := mo_fx.rd hm hf 19 rfl (fun k hk => ⟨fun e => (hF k s hk).2 (Or.inl ⟨Or.inl e, rfl⟩), (hF k s hk).1⟩)
  have e1 : jh_I h' (ar 539) s = jh_I h (ar 539) s := mo_fx.rd hm hf 20 rfl (fun k hk => ⟨fun e => (hF k s hk).2 (Or.inl ⟨Or.inr (Or.inl e), rfl⟩), (hF k s hk).1⟩)
  have e2 : jh_I h' (ar 540) s = jh_I h (ar 540) s := mo_fx.rd hm hf 21 rfl (fun k hk => ⟨fun e => (hF k s hk).2 (Or.inl ⟨Or.inr (Or.inr e), rfl⟩), (hF k s hk).1⟩)
  have e3 : ∀ j, j < 400 → jh_I h' (ar 541) (s * 400 + j) = jh_I h (ar 541) (s * 400 + j) := fun j hj => mo_fx.rd hm hf 22 rfl (fun k hk => ⟨fun e => (hF k _ hk).2 (Or.inr ⟨e, by omega, by omega⟩), (hF k _ hk).1⟩)
  rcases v with _ | v | L | x
  · exact e0.trans hv
  · exact ⟨e0.trans hv.1, e1.trans hv.2⟩
  · exact ⟨e0.trans hv.1, e2.trans hv.2.1, hv.2.2.1, fun j hj => ⟨(e3 j (by have := hv.2.2.1; omega)).trans (hv.2.2.2 j hj).1, (hv.2.2.2 j hj).2⟩⟩
  · exact ⟨e0.trans hv.1, e1.trans hv.2.1, hv.2.2⟩
/-- what DATA x is, as a value -/
def sv_of (D : sd_D) (x : Nat) : sv_T := if sd_k D x = 0 then some (.inl (sd_v D x)) else if sd_k D x = 1 then some (.inr (.inl ((List.range (sd_c D x)).map (sd_t D x)))) else some (.inr (.inr x))
theorem getD_rm {f : Nat → Nat} {n j : Nat} (h : j < n) : ((List.range n).map f).getD j 0 = f j := by
  rw [List.getD_eq_getElem?_getD, List.getElem?_map, List.getElem?_range h]; rfl
set_option maxHeartbeats 4000000 in
set_option maxRecDepth 100000 in
theorem cm_load {g : jg_G} (hg : (jg_l g).stackTraces = false) {h : jh_H} {mo : Nat} {ar : Nat → Nat} {n r x : Nat} {D : sd_D} {Q : jw_O → jh_H → Prop} (hm : mo_ok h mo ar) (hD : mo_D h ar n D) (hr : r < 18) (hx : x < n)
    (hq : ∀ h', mo_fx h h' mo ar (rg_F r) no_G → mo_R h' ar n D r (sv_of D x) → Q (.inl none) h') : jw_C g 1 0 0 m_M_load [.inr (.inr (some mo)), .inl (nI r), .inl (nI x)] h Q := by
  refine jw_intro (ls := [some (.inr (.inr (some mo))), some (.inl (nI r)), some (.inl (nI x)), none]) (by decide) k_M_load rfl (by simp [lo_fit, jv_c]) hg ?_
  have hn60 := hD.1
  obtain ⟨d1, d2, d3, d4, d5, d6, d7⟩ := hD.2 x hx
  rw [sv_of] at hq
  refine jw_aload_n rfl rfl ?_
  refine jw_gr rfl g_M_92 hm.1 (mo_r hm 19 rfl) ?_
  refine jw_iload_n rfl rfl ?_
  refine jw_aload_n rfl rfl ?_
  refine jw_gr rfl g_M_35 hm.1 (mo_r hm 1 rfl) ?_
  refine jw_iload_n rfl rfl ?_
  refine js_ialdV (x) rfl (mo_a hm 1 rfl) (by decide) (by rfl) rfl (by omega) (by decide) (d1) ?_
  refine js_iast (r) rfl (mo_a hm 19 rfl) (by decide) (by rfl) rfl (by omega) (by decide) ?_
  refine jw_aload_n rfl rfl ?_
  refine jw_gr rfl g_M_95 (mo_sI hm).1 (mo_r (mo_sI hm) 20 rfl) ?_
  refine jw_iload_n rfl rfl ?_
  refine jw_aload_n rfl rfl ?_
  refine jw_gr rfl g_M_35 (mo_sI hm).1 (mo_r (mo_sI hm) 1 rfl) ?_
  refine jw_iload_n rfl rfl ?_
  refine js_ialdV (x) rfl (mo_a (mo_sI hm) 1 rfl) (by decide) (by rfl) rfl (by omega) (by decide) ((mo_rs hm 1 19 rfl rfl (by decide)).trans d1) ?_
  refine jw_if_ne 35 rfl rfl (fun z => ?_) (fun z => ?_)
  rotate_left
  · have h0 : sd_k D x = 0 := (nI_eq (b := 0) (by omega) (by omega)).mp z
    refine jw_aload_n rfl rfl ?_
    refine jw_gr rfl g_M_39 (mo_sI hm).1 (mo_r (mo_sI hm) 2 rfl) ?_
    refine jw_iload_n rfl rfl ?_
    refine js_ialdV (x) rfl (mo_a (mo_sI hm) 2 rfl) (by decide) (by rfl) rfl (by omega) (by decide) ((mo_rs hm 2 19 rfl rfl (by decide)).trans d3) ?_
    refine jw_goto 36 rfl rfl ?_
    refine js_iast (r) rfl (mo_a (mo_sI hm) 20 rfl) (by decide) (by rfl) rfl (by omega) (by decide) ?_
    refine jw_aload_n rfl rfl ?_
    refine jw_gr rfl g_M_35 (mo_sI (mo_sI hm)).1 (mo_r (mo_sI (mo_sI hm)) 1 rfl) ?_
    refine jw_iload_n rfl rfl ?_
    refine js_ialdV (x) rfl (mo_a (mo_sI (mo_sI hm)) 1 rfl) (by decide) (by rfl) rfl (by omega) (by decide) (((mo_rs hm 1 20 rfl rfl (by decide)).trans (mo_rs hm 1 19 rfl rfl (by decide))).trans d1) ?_
    refine js_iconst (x := 1) rfl rfl ?_
    refine jw_icmp_eq 48 rfl rfl (fun z => absurd z (fun z => absurd ((nI_eq (b := 1) (by omega) (by omega)).mp z) (by omega))) (fun _ => ?_)
    refine jw_return rfl rfl ?_
    refine hq _ (mo_fx.sI (mo_fx.sI mo_fx.rf (Or.inl ⟨Or.inl rfl, rfl⟩)) (Or.inl ⟨Or.inr (Or.inl rfl), rfl⟩)) ?_
    rw [if_pos h0]
    exact ⟨(mo_rs hm 19 20 rfl rfl (by decide)).trans ((jh_u_s _ _ _ _).trans (by rw [h0]; rfl)), jh_u_s _ _ _ _⟩
  have h0 : sd_k D x ≠ 0 := fun e => z (by rw [e]; rfl)
  have d4 := d4 h0
  refine jw_iload_n rfl rfl ?_
  refine js_iast (r) rfl (mo_a (mo_sI hm) 20 rfl) (by decide) (by rfl) rfl (by omega) (by decide) ?_
  refine jw_aload_n rfl rfl ?_
  refine jw_gr rfl g_M_35 (mo_sI (mo_sI hm)).1 (mo_r (mo_sI (mo_sI hm)) 1 rfl) ?_
  refine jw_iload_n rfl rfl ?_
  refine js_ialdV (x) rfl (mo_a (mo_sI (mo_sI hm)) 1 rfl) (by decide) (by rfl) rfl (by omega) (by decide) (((mo_rs hm 1 20 rfl rfl (by decide)).trans (mo_rs hm 1 19 rfl rfl (by decide))).trans d1) ?_
  refine js_iconst (x := 1) rfl rfl ?_
  have f1 : mo_fx h (jh_sI (jh_sI h (ar 538) r (nI (sd_k D x))) (ar 539) r (nI x)) mo ar (rg_F r) no_G := mo_fx.sI (mo_fx.sI mo_fx.rf (Or.inl ⟨Or.inl rfl, rfl⟩)) (Or.inl ⟨Or.inr (Or.inl rfl), rfl⟩)
  refine jw_icmp_eq 48 rfl rfl (fun z1 => ?_) (fun z1 => ?_)
  rotate_left
  · have h1 : sd_k D x ≠ 1 := fun e => z1 (by rw [e]; rfl)
    refine jw_return rfl rfl ?_
    refine hq _ f1 ?_
    rw [if_neg h0, if_neg h1]
    exact ⟨(mo_rs hm 19 20 rfl rfl (by decide)).trans (jh_u_s _ _ _ _), jh_u_s _ _ _ _, hx, by omega⟩
  have h1 : sd_k D x = 1 := (nI_eq (b := 1) (by omega) (by omega)).mp z1
  have hc := (d5 h1).1
  refine jw_aload_n rfl rfl ?_
  refine jw_gr rfl g_M_98 (mo_sI (mo_sI hm)).1 (mo_r (mo_sI (mo_sI hm)) 21 rfl) ?_
  refine jw_iload_n rfl rfl ?_
  refine jw_aload_n rfl rfl ?_
  refine jw_gr rfl g_M_39 (mo_sI (mo_sI hm)).1 (mo_r (mo_sI (mo_sI hm)) 2 rfl) ?_
  refine jw_iload_n rfl rfl ?_
  refine js_ialdV (x) rfl (mo_a (mo_sI (mo_sI hm)) 2 rfl) (by decide) (by rfl) rfl (by omega) (by decide) (((mo_rs hm 2 20 rfl rfl (by decide)).trans (mo_rs hm 2 19 rfl rfl (by decide))).trans (d3.trans d4)) ?_
  refine js_iast (r) rfl (mo_a (mo_sI (mo_sI hm)) 21 rfl) (by decide) (by rfl) rfl (by omega) (by decide) ?_
  refine js_iconst (x := 0) rfl rfl ?_
  refine js_istore_n rfl rfl (by decide) rfl ?_
  have f2 := mo_fx.sI (v := nI (sd_c D x)) f1 (k := 540) (j := r) (Or.inl ⟨Or.inr (Or.inr rfl), rfl⟩)
  have g0 : jh_I (jh_sI (jh_sI (jh_sI h (ar 538) r (nI (sd_k D x))) (ar 539) r (nI x)) (ar 540) r (nI (sd_c D x))) (ar 538) r = 1 := (mo_rs hm 19 21 rfl rfl (by decide)).trans ((mo_rs hm 19 20 rfl rfl (by decide)).trans ((jh_u_s _ _ _ _).trans (by rw [h1]; rfl)))
  have g2 : jh_I (jh_sI (jh_sI (jh_sI h (ar 538) r (nI (sd_k D x))) (ar 539) r (nI x)) (ar 540) r (nI (sd_c D x))) (ar 540) r = nI (sd_c D x) := jh_u_s _ _ _ _
  generalize jh_sI (jh_sI (jh_sI h (ar 538) r (nI (sd_k D x))) (ar 539) r (nI x)) (ar 540) r (nI (sd_c D x)) = h2 at f2 g0 g2
  have loop : ∀ m j h3, j + m = sd_c D x → mo_fx h h3 mo ar (rg_F r) no_G → jh_I h3 (ar 538) r = 1 → jh_I h3 (ar 540) r = nI (sd_c D x) → (∀ i, i < j → jh_I h3 (ar 541) (r * 400 + i) = nI (sd_t D x i)) → jw_J g 1 m_M_load jw_T0 62 [some (.inr (.inr (some mo))), some (.inl (nI r)), some (.inl (nI x)), some (.inl (nI j))] [] h3 0 0 Q := by
    intro m
    induction m with
    | zero =>
      intro j h3 hj f3 a0 a2 ac
      have hm3 := mo_fx.ok f3 hm
      refine jw_iload_n rfl rfl ?_
      refine jw_aload_n rfl rfl ?_
      refine jw_gr rfl g_M_98 hm3.1 (mo_r hm3 21 rfl) ?_
      refine jw_iload_n rfl rfl ?_
      refine js_ialdV (r) rfl (mo_a hm3 21 rfl) (by decide) (by rfl) rfl (by omega) (by decide) (a2) ?_
      refine jw_icmp_ge 97 rfl rfl (fun _ => ?_) (fun z => absurd ((nI_leI (by omega) (by omega)).mpr (by omega)) z)
      refine jw_return rfl rfl ?_
      refine hq h3 f3 ?_
      rw [if_neg h0, if_pos h1]
      refine ⟨a0, by rw [List.length_map, List.length_range]; exact a2, by rw [List.length_map, List.length_range]; omega, fun i hi => ?_⟩
      rw [List.length_map, List.length_range] at hi
      rw [getD_rm hi]
      exact ⟨ac i (by omega), ((d5 h1).2 i hi).2⟩
    | succ m ih =>
      intro j h3 hj f3 a0 a2 ac
      have hm3 := mo_fx.ok f3 hm
      have hD3 := mo_D.fx hm f3 (fun k j z => ⟨Or.inr (by have := rg_F_k z; omega), rg_F_in z⟩) hD
      have htj := ((d5 h1).2 j (by omega)).2
      refine jw_iload_n rfl rfl ?_
      refine jw_aload_n rfl rfl ?_
      refine jw_gr rfl g_M_98 hm3.1 (mo_r hm3 21 rfl) ?_
      refine jw_iload_n rfl rfl ?_
      refine js_ialdV (r) rfl (mo_a hm3 21 rfl) (by decide) (by rfl) rfl (by omega) (by decide) (a2) ?_
      refine jw_icmp_ge 97 rfl rfl (fun z => absurd z (fun z => absurd ((nI_leI (by omega) (by omega)).mp z) (by omega))) (fun _ => ?_)
      refine jw_aload_n rfl rfl ?_
      refine jw_gr rfl g_M_101 hm3.1 (mo_r hm3 22 rfl) ?_
      refine jw_iload_n rfl rfl ?_
      refine js_sipush (x := 400) rfl rfl ?_
      refine jw_imulV rfl (pk_mul r 400) ?_
      refine jw_iload_n rfl rfl ?_
      refine jw_iaddV rfl (nI_add _ _) ?_
      refine jw_aload_n rfl rfl ?_
      refine jw_iload_n rfl rfl ?_
      refine jw_iload_n rfl rfl ?_
      refine js_call (As := [.inl (nI x), .inl (nI j)]) rfl l_M_dataLetter c_M_282 i_M_dataLetter s_M_dataLetter jc_o8 rfl hm3.1 rfl (cm_dataLetter hg hm3 hD3 hx h1 (by omega) ?_) (by decide) (Nat.le_of_ble_eq_true rfl) (by omega) (by omega) rfl
      refine jw_i2cV rfl (nI_c (by omega)) ?_
      refine js_cast (r * 400 + j) rfl (mo_a hm3 22 rfl) (by decide) (by rfl) rfl (by omega) (by decide) ?_
      refine js_iinc rfl rfl (nI_1 j) rfl (by decide) rfl ?_
      refine jw_goto 62 rfl rfl ?_
      refine ih (j + 1) _ (by omega) (mo_fx.sI f3 (Or.inr ⟨rfl, by omega, by omega⟩)) ((mo_rs hm 19 22 rfl rfl (by decide)).trans a0) ((mo_rs hm 21 22 rfl rfl (by decide)).trans a2) (fun i hi => ?_)
      by_cases z : i = j
      · subst z; exact (jh_u_s _ _ _ _).trans (nI_n (by omega))
      · exact (jh_u_k _ _ _ _ (by omega)).trans (ac i (by omega))
  exact loop (sd_c D x) 0 h2 (by omega) f2 g0 g2 (fun i hi => absurd hi (by omega))
end
section
/-! the model: truth, copying, elements, members -/
set_option maxHeartbeats 4000000 in
set_option maxRecDepth 100000 in
theorem cm_isFalse {g : jg_G} (hg : (jg_l g).stackTraces = false) {h : jh_H} {mo : Nat} {ar : Nat → Nat} {n r : Nat} {D : sd_D} {v : sv_T} {Q : jw_O → jh_H → Prop} (hm : mo_ok h mo ar) (hD : mo_D h ar n D) (hdp : ∀ x, x < n → sd_dp D 60 x) (hr : r < 18) (hv : mo_R h ar n D r v)
    (hq : ∀ h', mo_fx h h' mo ar rd_F rd_G → Q (.inl (some (.inl (sp_b (sv_false D v))))) h') : jw_C g 5 0 0 m_M_isFalse [.inr (.inr (some mo)), .inl (nI r)] h Q := by
  refine jw_intro (ls := [some (.inr (.inr (some mo))), some (.inl (nI r))]) (by decide) k_M_isFalse rfl (by simp [lo_fit, jv_c]) hg ?_
  have hv2 := hv
  rcases v with _ | v | L | x
  · refine jw_aload_n rfl rfl ?_
    refine jw_gr rfl g_M_92 hm.1 (mo_r hm 19 rfl) ?_
    refine jw_iload_n rfl rfl ?_
    refine js_ialdV (r) rfl (mo_a hm 19 rfl) (by decide) (by rfl) rfl (by omega) (by decide) (hv) ?_
    refine jw_if_lt 55 rfl rfl (fun _ => ?_) (fun z => absurd (by decide) z)
    refine js_iconst (x := 1) rfl rfl ?_
    refine jw_goto 60 rfl rfl ?_
    refine jw_ireturn rfl rfl rfl ?_
    exact hq h mo_fx.rf
  · obtain ⟨hw, hnum⟩ : jh_I h (ar 538) r = 0 ∧ jh_I h (ar 539) r = v := hv
    refine jw_aload_n rfl rfl ?_
    refine jw_gr rfl g_M_92 hm.1 (mo_r hm 19 rfl) ?_
    refine jw_iload_n rfl rfl ?_
    refine js_ialdV (r) rfl (mo_a hm 19 rfl) (by decide) (by rfl) rfl (by omega) (by decide) (hw) ?_
    refine jw_if_lt 55 rfl rfl (fun z => absurd z (by decide)) (fun _ => ?_)
    refine jw_aload_n rfl rfl ?_
    refine jw_gr rfl g_M_92 hm.1 (mo_r hm 19 rfl) ?_
    refine jw_iload_n rfl rfl ?_
    refine js_ialdV (r) rfl (mo_a hm 19 rfl) (by decide) (by rfl) rfl (by omega) (by decide) (hw) ?_
    refine jw_if_ne 27 rfl rfl (fun z => absurd (rfl) z) (fun _ => ?_)
    refine jw_aload_n rfl rfl ?_
    refine jw_gr rfl g_M_95 hm.1 (mo_r hm 20 rfl) ?_
    refine jw_iload_n rfl rfl ?_
    refine js_ialdV (r) rfl (mo_a hm 20 rfl) (by decide) (by rfl) rfl (by omega) (by decide) (hnum) ?_
    refine jw_if_eq 55 rfl rfl (fun z => ?_) (fun z => ?_)
    · refine js_iconst (x := 1) rfl rfl ?_
      refine jw_goto 60 rfl rfl ?_
      refine jw_ireturn rfl rfl rfl ?_
      have e : sv_false D (some (.inl v)) = true := decide_eq_true z
      rw [e] at hq
      exact hq h mo_fx.rf
    · refine jw_aload_n rfl rfl ?_
      refine jw_gr rfl g_M_92 hm.1 (mo_r hm 19 rfl) ?_
      refine jw_iload_n rfl rfl ?_
      refine js_ialdV (r) rfl (mo_a hm 19 rfl) (by decide) (by rfl) rfl (by omega) (by decide) (hw) ?_
      refine js_iconst (x := 1) rfl rfl ?_
      refine jw_icmp_eq 47 rfl rfl (fun z => absurd z (by decide)) (fun _ => ?_)
      refine jw_aload_n rfl rfl ?_
      refine jw_gr rfl g_M_92 hm.1 (mo_r hm 19 rfl) ?_
      refine jw_iload_n rfl rfl ?_
      refine js_ialdV (r) rfl (mo_a hm 19 rfl) (by decide) (by rfl) rfl (by omega) (by decide) (hw) ?_
      refine js_iconst (x := 2) rfl rfl ?_
      refine jw_icmp_ne 59 rfl rfl (fun _ => ?_) (fun z => absurd z (by decide))
      refine js_iconst (x := 0) rfl rfl ?_
      refine jw_ireturn rfl rfl rfl ?_
      have e : sv_false D (some (.inl v)) = false := decide_eq_false z
      rw [e] at hq
      exact hq h mo_fx.rf
  · obtain ⟨hw, hsz, hL, hch⟩ : jh_I h (ar 538) r = 1 ∧ jh_I h (ar 540) r = nI L.length ∧ L.length ≤ 400 ∧ ∀ j, j < L.length → jh_I h (ar 541) (r * 400 + j) = nI (L.getD j 0) ∧ L.getD j 0 < 128 := hv
    refine jw_aload_n rfl rfl ?_
    refine jw_gr rfl g_M_92 hm.1 (mo_r hm 19 rfl) ?_
    refine jw_iload_n rfl rfl ?_
    refine js_ialdV (r) rfl (mo_a hm 19 rfl) (by decide) (by rfl) rfl (by omega) (by decide) (hw) ?_
    refine jw_if_lt 55 rfl rfl (fun z => absurd z (by decide)) (fun _ => ?_)
    refine jw_aload_n rfl rfl ?_
    refine jw_gr rfl g_M_92 hm.1 (mo_r hm 19 rfl) ?_
    refine jw_iload_n rfl rfl ?_
    refine js_ialdV (r) rfl (mo_a hm 19 rfl) (by decide) (by rfl) rfl (by omega) (by decide) (hw) ?_
    refine jw_if_ne 27 rfl rfl (fun _ => ?_) (fun z => absurd z (by decide))
    refine jw_aload_n rfl rfl ?_
    refine jw_gr rfl g_M_92 hm.1 (mo_r hm 19 rfl) ?_
    refine jw_iload_n rfl rfl ?_
    refine js_ialdV (r) rfl (mo_a hm 19 rfl) (by decide) (by rfl) rfl (by omega) (by decide) (hw) ?_
    refine js_iconst (x := 1) rfl rfl ?_
    refine jw_icmp_eq 47 rfl rfl (fun _ => ?_) (fun z => absurd (rfl) z)
    refine jw_aload_n rfl rfl ?_
    refine jw_iload_n rfl rfl ?_
    refine js_call (As := [.inl (nI r)]) rfl l_M_lengthOf c_M_307 i_M_lengthOf s_M_lengthOf jc_o8 rfl hm.1 rfl (cm_lengthOf hg hm hD hdp hr hv2 (fun h' f' => ?_)) (by decide) (Nat.le_of_ble_eq_true rfl) (by omega) (by omega) rfl
    refine jw_if_ne 59 rfl rfl (fun z => ?_) (fun z => ?_)
    · refine js_iconst (x := 0) rfl rfl ?_
      refine jw_ireturn rfl rfl rfl ?_
      have e : sv_false D (some (.inr (.inl L))) = false := decide_eq_false (fun e => z (by show nI L.length = 0; rw [e]; rfl))
      rw [e] at hq
      exact hq h' f'
    · refine js_iconst (x := 1) rfl rfl ?_
      refine jw_goto 60 rfl rfl ?_
      refine jw_ireturn rfl rfl rfl ?_
      have e : sv_false D (some (.inr (.inl L))) = true := decide_eq_true ((nI_eq (b := 0) (by omega) (by omega)).mp z)
      rw [e] at hq
      exact hq h' f'
  · obtain ⟨hw, hnum, hxn, hk2⟩ : jh_I h (ar 538) r = nI (sd_k D x) ∧ jh_I h (ar 539) r = nI x ∧ x < n ∧ 2 ≤ sd_k D x := hv
    have hn60 := hD.1
    obtain ⟨d1, d2, d3, d4, d5, d6, d7⟩ := hD.2 x hxn
    refine jw_aload_n rfl rfl ?_
    refine jw_gr rfl g_M_92 hm.1 (mo_r hm 19 rfl) ?_
    refine jw_iload_n rfl rfl ?_
    refine js_ialdV (r) rfl (mo_a hm 19 rfl) (by decide) (by rfl) rfl (by omega) (by decide) (hw) ?_
    refine jw_if_lt 55 rfl rfl (fun z => absurd z (nI_pos (by omega))) (fun _ => ?_)
    refine jw_aload_n rfl rfl ?_
    refine jw_gr rfl g_M_92 hm.1 (mo_r hm 19 rfl) ?_
    refine jw_iload_n rfl rfl ?_
    refine js_ialdV (r) rfl (mo_a hm 19 rfl) (by decide) (by rfl) rfl (by omega) (by decide) (hw) ?_
    refine jw_if_ne 27 rfl rfl (fun _ => ?_) (fun z => absurd z (fun z => absurd ((nI_eq (b := 0) (by omega) (by omega)).mp z) (by omega)))
    refine jw_aload_n rfl rfl ?_
    refine jw_gr rfl g_M_92 hm.1 (mo_r hm 19 rfl) ?_
    refine jw_iload_n rfl rfl ?_
    refine js_ialdV (r) rfl (mo_a hm 19 rfl) (by decide) (by rfl) rfl (by omega) (by decide) (hw) ?_
    refine js_iconst (x := 1) rfl rfl ?_
    refine jw_icmp_eq 47 rfl rfl (fun z => absurd z (fun z => absurd ((nI_eq (b := 1) (by omega) (by omega)).mp z) (by omega))) (fun _ => ?_)
    refine jw_aload_n rfl rfl ?_
    refine jw_gr rfl g_M_92 hm.1 (mo_r hm 19 rfl) ?_
    refine jw_iload_n rfl rfl ?_
    refine js_ialdV (r) rfl (mo_a hm 19 rfl) (by decide) (by rfl) rfl (by omega) (by decide) (hw) ?_
    refine js_iconst (x := 2) rfl rfl ?_
    refine jw_icmp_ne 59 rfl rfl (fun z => ?_) (fun z => ?_)
    · refine js_iconst (x := 0) rfl rfl ?_
      refine jw_ireturn rfl rfl rfl ?_
      have e : sv_false D (some (.inr (.inr x))) = false := decide_eq_false (fun e => z (by rw [e.1]; rfl))
      rw [e] at hq
      exact hq h mo_fx.rf
    · have h2 : sd_k D x = 2 := (nI_eq (b := 2) (by omega) (by omega)).mp z
      have hc := (d6 hk2).1
      refine jw_aload_n rfl rfl ?_
      refine jw_iload_n rfl rfl ?_
      refine js_call (As := [.inl (nI r)]) rfl l_M_lengthOf c_M_307 i_M_lengthOf s_M_lengthOf jc_o8 rfl hm.1 rfl (cm_lengthOf hg hm hD hdp hr hv2 (fun h' f' => ?_)) (by decide) (Nat.le_of_ble_eq_true rfl) (by omega) (by omega) rfl
      refine jw_if_ne 59 rfl rfl (fun z => ?_) (fun z => ?_)
      · refine js_iconst (x := 0) rfl rfl ?_
        refine jw_ireturn rfl rfl rfl ?_
        have e : sv_false D (some (.inr (.inr x))) = false := decide_eq_false (fun e => z (by show nI (sd_c D x) = 0; rw [e.2]; rfl))
        rw [e] at hq
        exact hq h' f'
      · refine js_iconst (x := 1) rfl rfl ?_
        refine jw_goto 60 rfl rfl ?_
        refine jw_ireturn rfl rfl rfl ?_
        have e : sv_false D (some (.inr (.inr x))) = true := decide_eq_true ⟨h2, (nI_eq (b := 0) (by show sd_c D x < _; omega) (by omega)).mp z⟩
        rw [e] at hq
        exact hq h' f'
set_option maxHeartbeats 4000000 in
set_option maxRecDepth 100000 in
theorem cm_copy {g : jg_G} (hg : (jg_l g).stackTraces = false) {h : jh_H} {mo : Nat} {ar : Nat → Nat} {n r s : Nat} {D : sd_D} {v : sv_T} {Q : jw_O → jh_H → Prop} (hm : mo_ok h mo ar) (hr : r < 18) (hs : s < 18) (hrs : r ≠ s) (hk3 : ∀ x, x < n → sd_k D x ≤ 3) (hv : mo_R h ar n D s v)
    (hq : ∀ h', mo_fx h h' mo ar (rg_F r) no_G → mo_R h' ar n D r v → Q (.inl none) h') : jw_C g 0 0 0 m_M_copy [.inr (.inr (some mo)), .inl (nI r), .inl (nI s)] h Q := by
  refine jw_intro (ls := [some (.inr (.inr (some mo))), some (.inl (nI r)), some (.inl (nI s)), none]) (by decide) k_M_copy rfl (by simp [lo_fit, jv_c]) hg ?_
  have wS : ∀ h3, mo_fx h h3 mo ar (rg_F r) no_G → mo_R h3 ar n D s v := fun h3 f3 => mo_R.fx hm f3 (fun k j z => ⟨rg_F_in z, fun z2 => by rcases z with ⟨_, e⟩ | ⟨_, e⟩ <;> rcases z2 with ⟨_, e2⟩ | ⟨_, e2⟩ <;> omega⟩) hs hv
  refine jw_aload_n rfl rfl ?_
  refine jw_gr rfl g_M_92 hm.1 (mo_r hm 19 rfl) ?_
  refine jw_iload_n rfl rfl ?_
  refine jw_aload_n rfl rfl ?_
  refine jw_gr rfl g_M_92 hm.1 (mo_r hm 19 rfl) ?_
  refine jw_iload_n rfl rfl ?_
  refine js_iald (s) rfl (mo_a hm 19 rfl) (by decide) (by rfl) rfl (by omega) (by decide) ?_
  refine js_iast (r) rfl (mo_a hm 19 rfl) (by decide) (by rfl) rfl (by omega) (by decide) ?_
  refine jw_aload_n rfl rfl ?_
  refine jw_gr rfl g_M_95 (mo_sI hm).1 (mo_r (mo_sI hm) 20 rfl) ?_
  refine jw_iload_n rfl rfl ?_
  refine jw_aload_n rfl rfl ?_
  refine jw_gr rfl g_M_95 (mo_sI hm).1 (mo_r (mo_sI hm) 20 rfl) ?_
  refine jw_iload_n rfl rfl ?_
  refine js_ialdV (s) rfl (mo_a (mo_sI hm) 20 rfl) (by decide) (by rfl) rfl (by omega) (by decide) (mo_rs hm 20 19 rfl rfl (by decide)) ?_
  refine js_iast (r) rfl (mo_a (mo_sI hm) 20 rfl) (by decide) (by rfl) rfl (by omega) (by decide) ?_
  refine jw_aload_n rfl rfl ?_
  refine jw_gr rfl g_M_98 (mo_sI (mo_sI hm)).1 (mo_r (mo_sI (mo_sI hm)) 21 rfl) ?_
  refine jw_iload_n rfl rfl ?_
  refine jw_aload_n rfl rfl ?_
  refine jw_gr rfl g_M_98 (mo_sI (mo_sI hm)).1 (mo_r (mo_sI (mo_sI hm)) 21 rfl) ?_
  refine jw_iload_n rfl rfl ?_
  refine js_ialdV (s) rfl (mo_a (mo_sI (mo_sI hm)) 21 rfl) (by decide) (by rfl) rfl (by omega) (by decide) ((mo_rs hm 21 20 rfl rfl (by decide)).trans (mo_rs hm 21 19 rfl rfl (by decide))) ?_
  refine js_iast (r) rfl (mo_a (mo_sI (mo_sI hm)) 21 rfl) (by decide) (by rfl) rfl (by omega) (by decide) ?_
  refine js_iconst (x := 0) rfl rfl ?_
  refine js_istore_n rfl rfl (by decide) rfl ?_
  generalize hh2 : jh_sI (jh_sI (jh_sI h (ar 538) r (jh_I h (ar 538) s)) (ar 539) r (jh_I h (ar 539) s)) (ar 540) r (jh_I h (ar 540) s) = h2
  have f2 : mo_fx h h2 mo ar (rg_F r) no_G := by rw [← hh2]; exact mo_fx.sI (mo_fx.sI (mo_fx.sI mo_fx.rf (Or.inl ⟨Or.inl rfl, rfl⟩)) (Or.inl ⟨Or.inr (Or.inl rfl), rfl⟩)) (Or.inl ⟨Or.inr (Or.inr rfl), rfl⟩)
  have g0 : jh_I h2 (ar 538) r = jh_I h (ar 538) s := by rw [← hh2]; exact (mo_rs hm 19 21 rfl rfl (by decide)).trans ((mo_rs hm 19 20 rfl rfl (by decide)).trans (jh_u_s _ _ _ _))
  have g1 : jh_I h2 (ar 539) r = jh_I h (ar 539) s := by rw [← hh2]; exact (mo_rs hm 20 21 rfl rfl (by decide)).trans (jh_u_s _ _ _ _)
  have g2 : jh_I h2 (ar 540) r = jh_I h (ar 540) s := by rw [← hh2]; exact jh_u_s _ _ _ _
  have g3 : jh_I h2 (ar 538) s = jh_I h (ar 538) s := mo_fx.rd hm f2 19 rfl (fun k z => ⟨fun e => by rcases z with ⟨_, e⟩ | ⟨e, _⟩ <;> omega, rg_F_in z⟩)
  clear hh2
  have hm2 := mo_fx.ok f2 hm
  by_cases ht : jh_I h (ar 538) s = 1
  · rcases v with _ | v | L | x
    · exact absurd (ht.symm.trans hv) (by decide)
    · exact absurd (ht.symm.trans hv.1) (by decide)
    · obtain ⟨hw, hsz, hL, hch⟩ : jh_I h (ar 538) s = 1 ∧ jh_I h (ar 540) s = nI L.length ∧ L.length ≤ 400 ∧ ∀ j, j < L.length → jh_I h (ar 541) (s * 400 + j) = nI (L.getD j 0) ∧ L.getD j 0 < 128 := hv
      have loop : ∀ m j h3, j + m = L.length → mo_fx h h3 mo ar (rg_F r) no_G → jh_I h3 (ar 538) r = 1 → jh_I h3 (ar 540) r = nI L.length → (∀ i, i < j → jh_I h3 (ar 541) (r * 400 + i) = nI (L.getD i 0)) → jw_J g 0 m_M_copy jw_T0 38 [some (.inr (.inr (some mo))), some (.inl (nI r)), some (.inl (nI s)), some (.inl (nI j))] [] h3 0 0 Q := by
        intro m
        induction m with
        | zero =>
          intro j h3 hj f3 a0 a2 ac
          have hm3 := mo_fx.ok f3 hm
          refine jw_iload_n rfl rfl ?_
          refine jw_aload_n rfl rfl ?_
          refine jw_gr rfl g_M_98 hm3.1 (mo_r hm3 21 rfl) ?_
          refine jw_iload_n rfl rfl ?_
          refine js_ialdV (s) rfl (mo_a hm3 21 rfl) (by decide) (by rfl) rfl (by omega) (by decide) ((wS h3 f3).2.1) ?_
          refine jw_icmp_ge 88 rfl rfl (fun _ => ?_) (fun z => absurd ((nI_leI (by omega) (by omega)).mpr (by omega)) z)
          refine jw_return rfl rfl ?_
          exact hq h3 f3 ⟨a0, a2, hL, fun i hi => ⟨ac i (by omega), (hch i hi).2⟩⟩
        | succ m ih =>
          intro j h3 hj f3 a0 a2 ac
          have hm3 := mo_fx.ok f3 hm
          have hcj := hch j (by omega)
          refine jw_iload_n rfl rfl ?_
          refine jw_aload_n rfl rfl ?_
          refine jw_gr rfl g_M_98 hm3.1 (mo_r hm3 21 rfl) ?_
          refine jw_iload_n rfl rfl ?_
          refine js_ialdV (s) rfl (mo_a hm3 21 rfl) (by decide) (by rfl) rfl (by omega) (by decide) ((wS h3 f3).2.1) ?_
          refine jw_icmp_ge 88 rfl rfl (fun z => absurd z (fun z => absurd ((nI_leI (by omega) (by omega)).mp z) (by omega))) (fun _ => ?_)
          refine jw_aload_n rfl rfl ?_
          refine jw_gr rfl g_M_92 hm3.1 (mo_r hm3 19 rfl) ?_
          refine jw_iload_n rfl rfl ?_
          refine js_ialdV (s) rfl (mo_a hm3 19 rfl) (by decide) (by rfl) rfl (by omega) (by decide) ((wS h3 f3).1) ?_
          refine js_iconst (x := 1) rfl rfl ?_
          refine jw_icmp_ne 88 rfl rfl (fun z => absurd (rfl) z) (fun _ => ?_)
          refine jw_aload_n rfl rfl ?_
          refine jw_gr rfl g_M_101 hm3.1 (mo_r hm3 22 rfl) ?_
          refine jw_iload_n rfl rfl ?_
          refine js_sipush (x := 400) rfl rfl ?_
          refine jw_imulV rfl (pk_mul r 400) ?_
          refine jw_iload_n rfl rfl ?_
          refine jw_iaddV rfl (nI_add _ _) ?_
          refine jw_aload_n rfl rfl ?_
          refine jw_gr rfl g_M_101 hm3.1 (mo_r hm3 22 rfl) ?_
          refine jw_iload_n rfl rfl ?_
          refine js_sipush (x := 400) rfl rfl ?_
          refine jw_imulV rfl (pk_mul s 400) ?_
          refine jw_iload_n rfl rfl ?_
          refine jw_iaddV rfl (nI_add _ _) ?_
          refine js_caldV (s * 400 + j) rfl (mo_a hm3 22 rfl) (by decide) (by rfl) rfl (by omega) (by decide) (((wS h3 f3).2.2.2 j (by omega)).1) ?_
          refine js_cast (r * 400 + j) rfl (mo_a hm3 22 rfl) (by decide) (by rfl) rfl (by omega) (by decide) ?_
          refine js_iinc rfl rfl (nI_1 j) rfl (by decide) rfl ?_
          refine jw_goto 38 rfl rfl ?_
          refine ih (j + 1) _ (by omega) (mo_fx.sI f3 (Or.inr ⟨rfl, by omega, by omega⟩)) ((mo_rs hm 19 22 rfl rfl (by decide)).trans a0) ((mo_rs hm 21 22 rfl rfl (by decide)).trans a2) (fun i hi => ?_)
          by_cases z : i = j
          · subst z; exact (jh_u_s _ _ _ _).trans (nI_n (by omega))
          · exact (jh_u_k _ _ _ _ (by omega)).trans (ac i (by omega))
      exact loop L.length 0 h2 (by omega) f2 (g0.trans hw) (g2.trans hsz) (fun i hi => absurd hi (by omega))
    · exact absurd ((nI_eq (b := 1) (by have := hk3 x hv.2.2.1; omega) (by omega)).mp (hv.1.symm.trans ht)) (by have := hv.2.2.2; omega)
  · have fin : mo_R h2 ar n D r v := by
      rcases v with _ | v | L | x
      · exact g0.trans hv
      · exact ⟨g0.trans hv.1, g1.trans hv.2⟩
      · exact absurd hv.1 ht
      · exact ⟨g0.trans hv.1, g1.trans hv.2.1, hv.2.2⟩
    refine jw_iload_n rfl rfl ?_
    refine jw_aload_n rfl rfl ?_
    refine jw_gr rfl g_M_98 hm2.1 (mo_r hm2 21 rfl) ?_
    refine jw_iload_n rfl rfl ?_
    refine js_iald (s) rfl (mo_a hm2 21 rfl) (by decide) (by rfl) rfl (by omega) (by decide) ?_
    refine jw_icmp_ge 88 rfl rfl (fun z => ?_) (fun z => ?_)
    · refine jw_return rfl rfl ?_
      exact hq h2 f2 fin
    · refine jw_aload_n rfl rfl ?_
      refine jw_gr rfl g_M_92 hm2.1 (mo_r hm2 19 rfl) ?_
      refine jw_iload_n rfl rfl ?_
      refine js_ialdV (s) rfl (mo_a hm2 19 rfl) (by decide) (by rfl) rfl (by omega) (by decide) (g3) ?_
      refine js_iconst (x := 1) rfl rfl ?_
      refine jw_icmp_ne 88 rfl rfl (fun _ => ?_) (fun z => absurd z (ht))
      refine jw_return rfl rfl ?_
      exact hq h2 f2 fin
end
section
/-! expressions as they are read, and what they give -/
abbrev ex_S : Type := List Nat ⊕ Nat
abbrev ex_O : Type := Int32 ⊕ List Nat ⊕ Bool ⊕ (Nat × List ex_S)
abbrev ex_E : Type := Nat × ex_O × ex_O
def sp_sub (t : Nat → Nat) (p n : Nat) : List Nat := (List.range n).map (fun i => t (p + i))
/-- the steps behind the first name -/
def ex_tail (t : Nat → Nat) (e : Nat) : Nat → Nat → List ex_S
  | 0, _ => []
  | f + 1, k => if sp_at t k e = 46 then (if 0 < sp_letters t (k + 1) e then .inl (sp_sub t (k + 1) (sp_letters t (k + 1) e)) :: ex_tail t e f (k + (1 + sp_letters t (k + 1) e)) else .inr (t (k + 1)) :: ex_tail t e f (k + 2)) else []
def ex_this (t : Nat → Nat) (k e : Nat) : Bool := decide (sp_letters t k e = 4) && (sp_st t e k [116, 104, 105, 115] && decide (sp_at t (k + 4) e ≠ 46))
def ex_path (t : Nat → Nat) (p e : Nat) : Nat × List ex_S := ((sp_up t e (e - p) p - p) / 3, if ex_this t (sp_up t e (e - p) p) e then [] else .inl (sp_sub t (sp_up t e (e - p) p) (sp_letters t (sp_up t e (e - p) p) e)) :: ex_tail t e (e - p) (sp_up t e (e - p) p + sp_letters t (sp_up t e (e - p) p) e))
def ex_dec (t : Nat → Nat) : Nat → Nat → Int32 → Int32
  | 0, _, v => v
  | n + 1, p, v => ex_dec t n (p + 1) (v * 10 + nI (t p) - 48)
def ex_op (t : Nat → Nat) (p e : Nat) : ex_O := if t p = 34 then .inr (.inl (sp_sub t (p + 1) (e - p - 2))) else if sp_dg (t p) then .inl (ex_dec t (e - p) p 0) else if t p = 64 then .inr (.inr (.inl (decide (t (p + 1) = 105)))) else .inr (.inr (.inr (ex_path t p e)))
def ex_ex (t : Nat → Nat) (p e : Nat) : ex_E := if sp_helper t p e = 0 then (0, ex_op t p e, .inl 0) else (sp_helper t p e, ex_op t (p + sp_hs (sp_helper t p e)) ((sp_operandEnd t (p + sp_hs (sp_helper t p e)) e).getD 0), if 3 < sp_helper t p e then ex_op t ((sp_operandEnd t (p + sp_hs (sp_helper t p e)) e).getD 0 + 1) e else .inl 0)
/-- a NAME's code, as the model reckons it -/
def nm_c : List Nat → Int64 → Int64
  | [], w => w
  | c :: r, w => nm_c r (w * 32 + (nI c).toInt64 - 96)
def ev_fd (D : sd_D) (x : Nat) (w : Int64) : Nat → Nat → Option Nat
  | 0, _ => none
  | m + 1, i => if sd_n D x i = w then some i else ev_fd D x w m (i + 1)
def ev_mem (D : sd_D) (v : sv_T) (w : Int64) : sv_T := match v with
  | some (.inr (.inr x)) => if sd_k D x = 3 then (match ev_fd D x w (sd_c D x) 0 with | some i => sv_of D (sd_p D x i) | none => none) else none
  | _ => none
def ev_el (D : sd_D) (v : sv_T) (k : Int32) : sv_T := match v with
  | some (.inr (.inr x)) => if sd_k D x = 2 ∧ 0 ≤ k ∧ k < nI (sd_c D x) then sv_of D (sd_p D x k.toNatClampNeg) else none
  | _ => none
def ev_step (D : sd_D) (v : sv_T) (s : ex_S) : sv_T := match s with
  | .inl L => ev_mem D v (nm_c L 0)
  | .inr c => ev_el D v (nI c - 48)
def ev_steps (D : sd_D) (v : sv_T) : List ex_S → sv_T
  | [] => v
  | s :: r => ev_steps D (ev_step D v s) r
/-- contexts C 0 .. C (cn - 1), and which turn of a loop is under way -/
def ev_op (D : sd_D) (C : Nat → sv_T) (cn : Nat) (tn : Option Nat) (o : ex_O) : sv_T := match o with
  | .inl v => some (.inl v)
  | .inr (.inl L) => some (.inr (.inl L))
  | .inr (.inr (.inl b)) => (match tn with | none => none | some k => some (.inl (if b then nI k else if k = 0 then 1 else 0)))
  | .inr (.inr (.inr (back, S))) => ev_steps D (if cn ≤ back then none else C (cn - 1 - back)) S
def ev_up (c : Nat) : Nat := if sp_lt c then c - 32 else c
def ev_num (v : sv_T) : Option Int32 := match v with
  | some (.inl x) => some x
  | _ => none
/-- none: too long -/
def ev_ex (D : sd_D) (C : Nat → sv_T) (cn : Nat) (tn : Option Nat) (E : ex_E) : Option sv_T :=
  if E.1 = 0 then some (ev_op D C cn tn E.2.1)
  else if E.1 = 1 then (if 400 < (sv_raw D (ev_op D C cn tn E.2.1)).length then none else some (some (.inr (.inl ((sv_raw D (ev_op D C cn tn E.2.1)).map ev_up)))))
  else if E.1 = 2 then some (some (.inl (nI (sv_len D (ev_op D C cn tn E.2.1)))))
  else if E.1 = 3 then some (some (.inl (sp_b (sv_false D (ev_op D C cn tn E.2.1)))))
  else if E.1 = 4 then some (match ev_num (ev_op D C cn tn E.2.1), ev_num (ev_op D C cn tn E.2.2) with | some a, some b => some (.inl (a + b)) | _, _ => none)
  else if E.1 = 5 then (if 400 < (sv_raw D (ev_op D C cn tn E.2.1)).length ∨ 400 < (sv_raw D (ev_op D C cn tn E.2.2)).length then none else some (some (.inl (sp_b (decide (sv_raw D (ev_op D C cn tn E.2.1) = sv_raw D (ev_op D C cn tn E.2.2)))))))
  else some (ev_el D (ev_op D C cn tn E.2.1) (match ev_num (ev_op D C cn tn E.2.2) with | some b => b | none => -1))
theorem ev_fd_none {D : sd_D} {x : Nat} {w : Int64} : ∀ m i, (∀ j, i ≤ j → j < i + m → sd_n D x j ≠ w) → ev_fd D x w m i = none := by
  intro m
  induction m with
  | zero => intro i _; rfl
  | succ m ih =>
    intro i h
    rw [ev_fd, if_neg (h i (Nat.le_refl _) (by omega))]
    exact ih (i + 1) (fun j h1 h2 => h j (by omega) (by omega))
theorem ev_fd_some {D : sd_D} {x : Nat} {w : Int64} : ∀ m i k, i ≤ k → k < i + m → (∀ j, i ≤ j → j < k → sd_n D x j ≠ w) → sd_n D x k = w → ev_fd D x w m i = some k := by
  intro m
  induction m with
  | zero => intro i k h1 h2 _ _; omega
  | succ m ih =>
    intro i k h1 h2 h3 h4
    rw [ev_fd]
    by_cases z : i = k
    · subst z; rw [if_pos h4]
    · rw [if_neg (h3 i (Nat.le_refl _) (by omega))]
      exact ih (i + 1) k (by omega) (by omega) (fun j h5 h6 => h3 j (by omega) h6) h4
/-- what a value may be: DATA there are, and texts of characters -/
def sv_ok (D : sd_D) (n : Nat) (v : sv_T) : Prop := match v with
  | some (.inr (.inr x)) => x < n ∧ 2 ≤ sd_k D x
  | some (.inr (.inl L)) => L.length ≤ 400 ∧ ∀ c ∈ L, c < 128
  | _ => True
/-- register r set to a number or to nothing -/
theorem rg_nonef {h : jh_H} {mo : Nat} {ar : Nat → Nat} {r : Nat} : mo_fx h (jh_sI h (ar 538) r (-1)) mo ar (rg_F r) no_G := mo_fx.sI mo_fx.rf (Or.inl ⟨Or.inl rfl, rfl⟩)
theorem rg_nonev {h : jh_H} {ar : Nat → Nat} {n r : Nat} {D : sd_D} : mo_R (jh_sI h (ar 538) r (-1)) ar n D r none := jh_u_s _ _ _ _
theorem rg_numf {h : jh_H} {mo : Nat} {ar : Nat → Nat} {r : Nat} {v : Int32} : mo_fx h (jh_sI (jh_sI h (ar 538) r 0) (ar 539) r v) mo ar (rg_F r) no_G := mo_fx.sI (mo_fx.sI mo_fx.rf (Or.inl ⟨Or.inl rfl, rfl⟩)) (Or.inl ⟨Or.inr (Or.inl rfl), rfl⟩)
theorem rg_numv {h h0 : jh_H} {mo : Nat} {ar : Nat → Nat} {n r : Nat} {D : sd_D} {v : Int32} (hm : mo_ok h0 mo ar) : mo_R (jh_sI (jh_sI h (ar 538) r 0) (ar 539) r v) ar n D r (some (.inl v)) :=
  ⟨(mo_rs hm 19 20 rfl rfl (by decide)).trans (jh_u_s _ _ _ _), jh_u_s _ _ _ _⟩
theorem mo_D.rg {h h' h0 : jh_H} {mo : Nat} {ar : Nat → Nat} {r : Nat} {G : Nat → Prop} {n : Nat} {D : sd_D} (hm : mo_ok h0 mo ar) (hf : mo_fx h h' mo ar (rg_F r) G) (hD : mo_D h ar n D) : mo_D h' ar n D := mo_D.fx hm hf (fun k j z => ⟨Or.inr (by have := rg_F_k z; omega), rg_F_in z⟩) hD
theorem mo_tx.rg {h h' h0 : jh_H} {mo : Nat} {ar t : Nat → Nat} {r : Nat} {G : Nat → Prop} (hm : mo_ok h0 mo ar) (hf : mo_fx h h' mo ar (rg_F r) G) (ht : mo_tx h ar t) : mo_tx h' ar t := fun i hi => by
  rw [mo_fx.rd hm hf 7 rfl (fun k z => ⟨by have := rg_F_k z; omega, rg_F_in z⟩)]; exact ht i hi
set_option maxHeartbeats 4000000 in
set_option maxRecDepth 100000 in
theorem cm_element {g : jg_G} (hg : (jg_l g).stackTraces = false) {h : jh_H} {mo : Nat} {ar : Nat → Nat} {n r : Nat} {k : Int32} {D : sd_D} {v : sv_T} {Q : jw_O → jh_H → Prop} (hm : mo_ok h mo ar) (hD : mo_D h ar n D) (hr : r < 18) (hv : mo_R h ar n D r v)
    (hq : ∀ h', mo_fx h h' mo ar (rg_F r) no_G → mo_R h' ar n D r (ev_el D v k) → Q (.inl none) h') : jw_C g 2 0 0 m_M_element [.inr (.inr (some mo)), .inl (nI r), .inl k] h Q := by
  refine jw_intro (ls := [some (.inr (.inr (some mo))), some (.inl (nI r)), some (.inl k)]) (by decide) k_M_element rfl (by simp [lo_fit, jv_c]) hg ?_
  have hn60 := hD.1
  have no : ev_el D v k = none → jw_J g 2 m_M_element jw_T0 29 [some (.inr (.inr (some mo))), some (.inl (nI r)), some (.inl k)] [] h 0 0 Q := by
    intro e
    rw [e] at hq
    refine jw_aload_n rfl rfl ?_
    refine jw_iload_n rfl rfl ?_
    refine js_call (As := [.inl (nI r)]) rfl l_M_nothing c_M_310 i_M_nothing s_M_nothing jc_o8 rfl hm.1 rfl (cm_nothing hg hm hr ?_) (by decide) (Nat.le_of_ble_eq_true rfl) (by omega) (by omega) rfl
    refine jw_goto 58 rfl rfl ?_
    refine jw_return rfl rfl ?_
    exact hq _ rg_nonef rg_nonev
  by_cases z2 : jh_I h (ar 538) r = 2
  · rcases v with _ | v | L | x
    · exact absurd (z2.symm.trans hv) (by decide)
    · exact absurd (z2.symm.trans hv.1) (by decide)
    · exact absurd (z2.symm.trans hv.1) (by decide)
    · obtain ⟨hw, hnum, hxn, hk2⟩ : jh_I h (ar 538) r = nI (sd_k D x) ∧ jh_I h (ar 539) r = nI x ∧ x < n ∧ 2 ≤ sd_k D x := hv
      obtain ⟨d1, d2, d3, d4, d5, d6, d7⟩ := hD.2 x hxn
      have d4 := d4 (by omega)
      have hk : sd_k D x = 2 := (nI_eq (b := 2) (by omega) (by omega)).mp (hw.symm.trans z2)
      have hc := d6 hk2
      refine jw_aload_n rfl rfl ?_
      refine jw_gr rfl g_M_92 hm.1 (mo_r hm 19 rfl) ?_
      refine jw_iload_n rfl rfl ?_
      refine js_ialdV (r) rfl (mo_a hm 19 rfl) (by decide) (by rfl) rfl (by omega) (by decide) (z2) ?_
      refine js_iconst (x := 2) rfl rfl ?_
      refine jw_icmp_ne 29 rfl rfl (fun z => absurd (rfl) z) (fun _ => ?_)
      refine jw_iload_n rfl rfl ?_
      refine jw_if_lt 29 rfl rfl (fun z => no ?_) (fun z => ?_)
      · simp only [ev_el]; exact if_neg (fun q => absurd q.2.1 (by rw [Int32.not_le]; exact z))
      refine jw_iload_n rfl rfl ?_
      refine jw_aload_n rfl rfl ?_
      refine jw_gr rfl g_M_39 hm.1 (mo_r hm 2 rfl) ?_
      refine jw_aload_n rfl rfl ?_
      refine jw_gr rfl g_M_95 hm.1 (mo_r hm 20 rfl) ?_
      refine jw_iload_n rfl rfl ?_
      refine js_ialdV (r) rfl (mo_a hm 20 rfl) (by decide) (by rfl) rfl (by omega) (by decide) (hnum) ?_
      refine js_ialdV (x) rfl (mo_a hm 2 rfl) (by decide) (by rfl) rfl (by omega) (by decide) (d3.trans d4) ?_
      refine jw_icmp_lt 37 rfl rfl (fun z1 => ?_) (fun z1 => no ?_)
      rotate_left
      · simp only [ev_el]; exact if_neg (fun q => z1 q.2.2)
      have z0 : 0 ≤ k := Int32.not_lt.mp z
      have hkk : k = nI k.toNatClampNeg := by
        have := Int32.ofNat_toNatClampNeg k z0
        exact this.symm
      have hlt : k.toNatClampNeg < sd_c D x := by
        rw [hkk] at z1
        have h1 : k.toNatClampNeg < 2 ^ 31 := by
          have := Int32.toInt_lt k
          unfold Int32.toNatClampNeg
          omega
        exact (nI_ltI (by omega) (by omega)).mp z1
      refine jw_aload_n rfl rfl ?_
      refine jw_iload_n rfl rfl ?_
      refine jw_aload_n rfl rfl ?_
      refine jw_gr rfl g_M_45 hm.1 (mo_r hm 4 rfl) ?_
      refine jw_aload_n rfl rfl ?_
      refine jw_gr rfl g_M_95 hm.1 (mo_r hm 20 rfl) ?_
      refine jw_iload_n rfl rfl ?_
      refine js_ialdV (r) rfl (mo_a hm 20 rfl) (by decide) (by rfl) rfl (by omega) (by decide) (hnum) ?_
      refine js_bipush (x := 10) rfl rfl ?_
      refine jw_imulV rfl (pk_mul x 10) ?_
      refine jw_iload_n rfl rfl ?_
      rw [hkk]
      refine jw_iaddV rfl (nI_add _ _) ?_
      refine js_ialdV (x * 10 + k.toNatClampNeg) rfl (mo_a hm 4 rfl) (by decide) (by rfl) rfl (by omega) (by decide) ((hc.2 _ hlt).1) ?_
      refine js_call (As := [.inl (nI r), .inl (nI (sd_p D x k.toNatClampNeg))]) rfl l_M_load c_M_313 i_M_load s_M_load jc_o8 rfl hm.1 rfl (cm_load hg hm hD hr (hc.2 _ hlt).2 (fun h' f' v' => ?_)) (by decide) (Nat.le_of_ble_eq_true rfl) (by omega) (by omega) rfl
      refine jw_return rfl rfl ?_
      refine hq h' f' ?_
      have e : ev_el D (some (.inr (.inr x))) k = sv_of D (sd_p D x k.toNatClampNeg) := by
        simp only [ev_el]; exact if_pos ⟨hk, z0, z1⟩
      rw [e]; exact v'
  · refine jw_aload_n rfl rfl ?_
    refine jw_gr rfl g_M_92 hm.1 (mo_r hm 19 rfl) ?_
    refine jw_iload_n rfl rfl ?_
    refine js_iald (r) rfl (mo_a hm 19 rfl) (by decide) (by rfl) rfl (by omega) (by decide) ?_
    refine js_iconst (x := 2) rfl rfl ?_
    refine jw_icmp_ne 29 rfl rfl (fun _ => ?_) (fun z => absurd z (z2))
    refine no ?_
    rcases v with _ | v | L | x
    · rfl
    · rfl
    · rfl
    · simp only [ev_el]; exact if_neg (fun q => z2 (hv.1.trans (by rw [q.1]; rfl)))
set_option maxHeartbeats 4000000 in
set_option maxRecDepth 100000 in
theorem cm_member {g : jg_G} (hg : (jg_l g).stackTraces = false) {h : jh_H} {mo : Nat} {ar t : Nat → Nat} {n r p m : Nat} {D : sd_D} {v : sv_T} {Q : jw_O → jh_H → Prop} (hm : mo_ok h mo ar) (hD : mo_D h ar n D) (ht : mo_tx h ar t) (hr : r < 18) (hp : p + m ≤ 1000) (hv : mo_R h ar n D r v)
    (hq : ∀ h', mo_fx h h' mo ar (rg_F r) no_G → mo_R h' ar n D r (ev_mem D v (nm_c (sp_sub t p m) 0)) → Q (.inl none) h') : jw_C g 2 0 0 m_M_member [.inr (.inr (some mo)), .inl (nI r), .inl (nI p), .inl (nI m)] h Q := by
  refine jw_intro (ls := [some (.inr (.inr (some mo))), some (.inl (nI r)), some (.inl (nI p)), some (.inl (nI m)), none, none, none]) (by decide) k_M_member rfl (by simp [lo_fit, jv_c]) hg ?_
  have hn60 := hD.1
  generalize hW : nm_c (sp_sub t p m) 0 = W at hq
  have no : ev_mem D v W = none → ∀ a, a = (-1 : Int32) → jw_J g 2 m_M_member jw_T0 67 [some (.inr (.inr (some mo))), some (.inl (nI r)), some (.inl (nI p)), some (.inl (nI m)), some (.inr (.inl W)), none, none] [.inl a] h 0 0 Q := by
    intro e a ea
    rw [e] at hq
    subst ea
    refine js_istore rfl rfl (by decide) rfl ?_
    refine jw_iload rfl rfl ?_
    refine jw_if_ge 82 rfl rfl (fun z => absurd z (by decide)) (fun _ => ?_)
    refine jw_aload_n rfl rfl ?_
    refine jw_iload_n rfl rfl ?_
    refine js_call (As := [.inl (nI r)]) rfl l_M_nothing c_M_310 i_M_nothing s_M_nothing jc_o8 rfl hm.1 rfl (cm_nothing hg hm hr ?_) (by decide) (Nat.le_of_ble_eq_true rfl) (by omega) (by omega) rfl
    refine jw_goto 104 rfl rfl ?_
    refine jw_return rfl rfl ?_
    exact hq _ rg_nonef rg_nonev
  have at41 : jw_J g 2 m_M_member jw_T0 41 [some (.inr (.inr (some mo))), some (.inl (nI r)), some (.inl (nI p)), some (.inl (nI m)), some (.inr (.inl W)), none, none] [] h 0 0 Q := by
    by_cases z3 : jh_I h (ar 538) r = 3
    · rcases v with _ | v | L | x
      · exact absurd (z3.symm.trans hv) (by decide)
      · exact absurd (z3.symm.trans hv.1) (by decide)
      · exact absurd (z3.symm.trans hv.1) (by decide)
      · obtain ⟨hw, hnum, hxn, hk2⟩ : jh_I h (ar 538) r = nI (sd_k D x) ∧ jh_I h (ar 539) r = nI x ∧ x < n ∧ 2 ≤ sd_k D x := hv
        obtain ⟨d1, d2, d3, d4, d5, d6, d7⟩ := hD.2 x hxn
        have d4 := d4 (by omega)
        have hk : sd_k D x = 3 := (nI_eq (b := 3) (by omega) (by omega)).mp (hw.symm.trans z3)
        have hc := d6 hk2
        have d7 := d7 hk
        refine jw_aload_n rfl rfl ?_
        refine jw_gr rfl g_M_92 hm.1 (mo_r hm 19 rfl) ?_
        refine jw_iload_n rfl rfl ?_
        refine js_ialdV (r) rfl (mo_a hm 19 rfl) (by decide) (by rfl) rfl (by omega) (by decide) (z3) ?_
        refine js_iconst (x := 3) rfl rfl ?_
        refine jw_icmp_ne 66 rfl rfl (fun z => absurd (rfl) z) (fun _ => ?_)
        refine jw_aload_n rfl rfl ?_
        refine jw_aload_n rfl rfl ?_
        refine jw_gr rfl g_M_95 hm.1 (mo_r hm 20 rfl) ?_
        refine jw_iload_n rfl rfl ?_
        refine js_ialdV (r) rfl (mo_a hm 20 rfl) (by decide) (by rfl) rfl (by omega) (by decide) (hnum) ?_
        refine jw_lload rfl rfl ?_
        refine js_call (As := [.inl (nI x), .inr (.inl W)]) rfl l_M_find c_M_188 i_M_find s_M_find jc_o8 rfl hm.1 rfl (cm_find (c := sd_c D x) hg hm (by omega) (d3.trans d4) hc.1 (fun q => ?_) (fun i hi q q2 => ?_)) (by decide) (Nat.le_of_ble_eq_true rfl) (by omega) (by omega) rfl
        · refine jw_goto 67 rfl rfl ?_
          refine no ?_ _ rfl
          simp only [ev_mem, if_pos hk]
          rw [ev_fd_none (sd_c D x) 0 (fun j _ h2 => by rw [← d7 j (by omega)]; exact q j (by omega))]
        · refine jw_goto 67 rfl rfl ?_
          refine js_istore rfl rfl (by decide) rfl ?_
          refine jw_iload rfl rfl ?_
          refine jw_if_ge 82 rfl rfl (fun _ => ?_) (fun z => absurd (nI_pos' (by omega)) z)
          refine jw_aload_n rfl rfl ?_
          refine jw_iload_n rfl rfl ?_
          refine jw_aload_n rfl rfl ?_
          refine jw_gr rfl g_M_45 hm.1 (mo_r hm 4 rfl) ?_
          refine jw_aload_n rfl rfl ?_
          refine jw_gr rfl g_M_95 hm.1 (mo_r hm 20 rfl) ?_
          refine jw_iload_n rfl rfl ?_
          refine js_ialdV (r) rfl (mo_a hm 20 rfl) (by decide) (by rfl) rfl (by omega) (by decide) (hnum) ?_
          refine js_bipush (x := 10) rfl rfl ?_
          refine jw_imulV rfl (pk_mul x 10) ?_
          refine jw_iload rfl rfl ?_
          refine jw_iaddV rfl (nI_add _ _) ?_
          refine js_ialdV (x * 10 + i) rfl (mo_a hm 4 rfl) (by decide) (by rfl) rfl (by omega) (by decide) ((hc.2 i hi).1) ?_
          refine js_call (As := [.inl (nI r), .inl (nI (sd_p D x i))]) rfl l_M_load c_M_313 i_M_load s_M_load jc_o8 rfl hm.1 rfl (cm_load hg hm hD hr (hc.2 i hi).2 (fun h' f' v' => ?_)) (by decide) (Nat.le_of_ble_eq_true rfl) (by omega) (by omega) rfl
          refine jw_return rfl rfl ?_
          refine hq h' f' ?_
          have e : ev_mem D (some (.inr (.inr x))) W = sv_of D (sd_p D x i) := by
            simp only [ev_mem, if_pos hk]
            rw [ev_fd_some (sd_c D x) 0 i (by omega) (by omega) (fun j _ h2 => by rw [← d7 j (by omega)]; exact q2 j h2) (by rw [← d7 i hi]; exact q)]
          rw [e]; exact v'
    · refine jw_aload_n rfl rfl ?_
      refine jw_gr rfl g_M_92 hm.1 (mo_r hm 19 rfl) ?_
      refine jw_iload_n rfl rfl ?_
      refine js_iald (r) rfl (mo_a hm 19 rfl) (by decide) (by rfl) rfl (by omega) (by decide) ?_
      refine js_iconst (x := 3) rfl rfl ?_
      refine jw_icmp_ne 66 rfl rfl (fun _ => ?_) (fun z => absurd z (z3))
      refine js_iconst (x := (-1)) rfl rfl ?_
      refine no ?_ _ rfl
      rcases v with _ | v | L | x
      · rfl
      · rfl
      · rfl
      · simp only [ev_mem]; exact if_neg (fun q => z3 (hv.1.trans (by rw [q]; rfl)))
  have loop : ∀ k j w, j + k = m → nm_c (sp_sub t (p + j) k) w = W → jw_J g 2 m_M_member jw_T0 6 [some (.inr (.inr (some mo))), some (.inl (nI r)), some (.inl (nI p)), some (.inl (nI m)), some (.inr (.inl w)), none, some (.inl (nI (p + j)))] [] h 0 0 Q := by
    intro k
    induction k with
    | zero =>
      intro j w hj hw
      have ew : w = W := hw
      subst ew
      refine jw_iload rfl rfl ?_
      refine jw_iload_n rfl rfl ?_
      refine jw_iload_n rfl rfl ?_
      refine jw_iaddV rfl (nI_add _ _) ?_
      refine jw_icmp_ge 41 rfl rfl (fun _ => ?_) (fun z => absurd ((nI_leI (by omega) (by omega)).mpr (by omega)) z)
      exact js_drop 6 rfl at41
    | succ k ih =>
      intro j w hj hw
      refine jw_iload rfl rfl ?_
      refine jw_iload_n rfl rfl ?_
      refine jw_iload_n rfl rfl ?_
      refine jw_iaddV rfl (nI_add _ _) ?_
      refine jw_icmp_ge 41 rfl rfl (fun z => absurd z (fun z => absurd ((nI_leI (by omega) (by omega)).mp z) (by omega))) (fun _ => ?_)
      refine jw_lload rfl rfl ?_
      refine jw_ldc2 rfl q_M_180 ?_
      refine jw_lmul rfl ?_
      refine jw_aload_n rfl rfl ?_
      refine jw_gr rfl g_M_56 hm.1 (mo_r hm 7 rfl) ?_
      refine jw_iload rfl rfl ?_
      refine js_caldV (p + j) rfl (mo_a hm 7 rfl) (by decide) (by rfl) rfl (by omega) (by decide) ((ht (p + j) (by omega)).1) ?_
      refine jw_i2l rfl ?_
      refine jw_ladd rfl ?_
      refine jw_ldc2 rfl q_M_182 ?_
      refine jw_lsub rfl ?_
      refine js_lstore rfl rfl (by decide) rfl ?_
      refine js_iinc rfl rfl (nI_1 (p + j)) rfl (by decide) rfl ?_
      refine jw_goto 6 rfl rfl ?_
      refine ih (j + 1) _ (by omega) ?_
      rw [← hw, sp_sub, sp_sub, List.range_succ_eq_map, List.map_cons, List.map_map, nm_c]
      refine congrArg (fun q => nm_c q _) (List.map_congr_left (fun a _ => ?_))
      show t (p + (j + 1) + a) = t (p + j + (a + 1))
      congr 1; omega
  refine jw_lconst rfl ?_
  refine js_lstore rfl rfl (by decide) rfl ?_
  refine jw_iload_n rfl rfl ?_
  refine js_istore rfl rfl (by decide) rfl ?_
  exact loop m 0 0 (by omega) hW
end
