section
-- ===== PART A: goes FIRST, ahead of the names: the tables' words, and 'selects' of the private methods out of them =====
/-- a private method of a class that the tables say can be made, by its rows of tables_1 -/
def lw_okq (q : MethodName × Nat) : Prop := (q.1.cls ≠ "java/lang/invoke/MethodHandle" ∧ q.1.cls ≠ "java/lang/invoke/VarHandle") ∧ Cond.instantiable q.1.cls q.2 ∈ tables_1 ∧ Cond.privateMethod q.1 ∈ tables_1 ∧ Cond.instanceMethod q.1 ∈ tables_1
theorem lw_p0 : lw_okq (⟨"java/lang/Throwable", "fillInStackTrace", "(I)Ljava/lang/Throwable;"⟩, 6) := ⟨⟨by decide +kernel, by decide +kernel⟩, List.mem_of_getElem? (i := 230) (by decide +kernel), List.mem_of_getElem? (i := 228) (by decide +kernel), List.mem_of_getElem? (i := 229) (by decide +kernel)⟩
theorem lw_p1 : lw_okq (⟨"WordShapes", "feedFour", "(I)V"⟩, 5) := ⟨⟨by decide +kernel, by decide +kernel⟩, List.mem_of_getElem? (i := 21) (by decide +kernel), List.mem_of_getElem? (i := 259) (by decide +kernel), List.mem_of_getElem? (i := 260) (by decide +kernel)⟩
theorem lw_p2 : lw_okq (⟨"WordShapes", "shapeIn", "(I)LWordShapes$Shape;"⟩, 5) := ⟨⟨by decide +kernel, by decide +kernel⟩, List.mem_of_getElem? (i := 21) (by decide +kernel), List.mem_of_getElem? (i := 296) (by decide +kernel), List.mem_of_getElem? (i := 297) (by decide +kernel)⟩
theorem lw_p3 : lw_okq (⟨"WordShapes$Reader", "opensItem", "()Z"⟩, 8) := ⟨⟨by decide +kernel, by decide +kernel⟩, List.mem_of_getElem? (i := 62) (by decide +kernel), List.mem_of_getElem? (i := 330) (by decide +kernel), List.mem_of_getElem? (i := 331) (by decide +kernel)⟩
theorem lw_p4 : lw_okq (⟨"WordShapes$Reader", "skipBlanks", "()V"⟩, 8) := ⟨⟨by decide +kernel, by decide +kernel⟩, List.mem_of_getElem? (i := 62) (by decide +kernel), List.mem_of_getElem? (i := 334) (by decide +kernel), List.mem_of_getElem? (i := 335) (by decide +kernel)⟩
theorem lw_p5 : lw_okq (⟨"WordShapes$Reader", "readKind", "()I"⟩, 8) := ⟨⟨by decide +kernel, by decide +kernel⟩, List.mem_of_getElem? (i := 62) (by decide +kernel), List.mem_of_getElem? (i := 353) (by decide +kernel), List.mem_of_getElem? (i := 354) (by decide +kernel)⟩
theorem lw_p6 : lw_okq (⟨"WordShapes$Reader", "here", "()I"⟩, 8) := ⟨⟨by decide +kernel, by decide +kernel⟩, List.mem_of_getElem? (i := 62) (by decide +kernel), List.mem_of_getElem? (i := 357) (by decide +kernel), List.mem_of_getElem? (i := 358) (by decide +kernel)⟩
theorem lw_p7 : lw_okq (⟨"WordShapes$Reader", "failHere", "()V"⟩, 8) := ⟨⟨by decide +kernel, by decide +kernel⟩, List.mem_of_getElem? (i := 62) (by decide +kernel), List.mem_of_getElem? (i := 364) (by decide +kernel), List.mem_of_getElem? (i := 365) (by decide +kernel)⟩
theorem lw_p8 : lw_okq (⟨"WordShapes$Reader", "fail", "(II)V"⟩, 8) := ⟨⟨by decide +kernel, by decide +kernel⟩, List.mem_of_getElem? (i := 62) (by decide +kernel), List.mem_of_getElem? (i := 371) (by decide +kernel), List.mem_of_getElem? (i := 372) (by decide +kernel)⟩
theorem lw_p9 : lw_okq (⟨"WordShapes$Reader", "passLetters", "()V"⟩, 8) := ⟨⟨by decide +kernel, by decide +kernel⟩, List.mem_of_getElem? (i := 62) (by decide +kernel), List.mem_of_getElem? (i := 378) (by decide +kernel), List.mem_of_getElem? (i := 379) (by decide +kernel)⟩
theorem lw_p10 : lw_okq (⟨"WordShapes$Reader", "kindFrom", "(I)I"⟩, 8) := ⟨⟨by decide +kernel, by decide +kernel⟩, List.mem_of_getElem? (i := 62) (by decide +kernel), List.mem_of_getElem? (i := 382) (by decide +kernel), List.mem_of_getElem? (i := 383) (by decide +kernel)⟩
theorem lw_p11 : lw_okq (⟨"WordShapes$Reader", "isWord", "(ILjava/lang/String;)Z"⟩, 8) := ⟨⟨by decide +kernel, by decide +kernel⟩, List.mem_of_getElem? (i := 62) (by decide +kernel), List.mem_of_getElem? (i := 396) (by decide +kernel), List.mem_of_getElem? (i := 397) (by decide +kernel)⟩
theorem lw_p12 : lw_okq (⟨"WordShapes$Reader", "keepKind", "(I)V"⟩, 8) := ⟨⟨by decide +kernel, by decide +kernel⟩, List.mem_of_getElem? (i := 62) (by decide +kernel), List.mem_of_getElem? (i := 448) (by decide +kernel), List.mem_of_getElem? (i := 449) (by decide +kernel)⟩
theorem lw_p13 : lw_okq (⟨"WordShapes$Reader", "opensBracket", "(I)Z"⟩, 8) := ⟨⟨by decide +kernel, by decide +kernel⟩, List.mem_of_getElem? (i := 62) (by decide +kernel), List.mem_of_getElem? (i := 460) (by decide +kernel), List.mem_of_getElem? (i := 461) (by decide +kernel)⟩
theorem lw_p14 : lw_okq (⟨"WordShapes$Reader", "passEmpty", "()V"⟩, 8) := ⟨⟨by decide +kernel, by decide +kernel⟩, List.mem_of_getElem? (i := 62) (by decide +kernel), List.mem_of_getElem? (i := 464) (by decide +kernel), List.mem_of_getElem? (i := 465) (by decide +kernel)⟩
theorem lw_p15 : lw_okq (⟨"WordShapes$Reader", "pass", "(I)V"⟩, 8) := ⟨⟨by decide +kernel, by decide +kernel⟩, List.mem_of_getElem? (i := 62) (by decide +kernel), List.mem_of_getElem? (i := 469) (by decide +kernel), List.mem_of_getElem? (i := 470) (by decide +kernel)⟩
def lw_privs_1 : List (MethodName × Nat) := [(⟨"java/lang/Throwable", "fillInStackTrace", "(I)Ljava/lang/Throwable;"⟩, 6), (⟨"WordShapes", "feedFour", "(I)V"⟩, 5), (⟨"WordShapes", "shapeIn", "(I)LWordShapes$Shape;"⟩, 5), (⟨"WordShapes$Reader", "opensItem", "()Z"⟩, 8), (⟨"WordShapes$Reader", "skipBlanks", "()V"⟩, 8), (⟨"WordShapes$Reader", "readKind", "()I"⟩, 8), (⟨"WordShapes$Reader", "here", "()I"⟩, 8), (⟨"WordShapes$Reader", "failHere", "()V"⟩, 8), (⟨"WordShapes$Reader", "fail", "(II)V"⟩, 8), (⟨"WordShapes$Reader", "passLetters", "()V"⟩, 8), (⟨"WordShapes$Reader", "kindFrom", "(I)I"⟩, 8), (⟨"WordShapes$Reader", "isWord", "(ILjava/lang/String;)Z"⟩, 8), (⟨"WordShapes$Reader", "keepKind", "(I)V"⟩, 8), (⟨"WordShapes$Reader", "opensBracket", "(I)Z"⟩, 8), (⟨"WordShapes$Reader", "passEmpty", "()V"⟩, 8), (⟨"WordShapes$Reader", "pass", "(I)V"⟩, 8)]
theorem lw_r1 : ∀ q ∈ lw_privs_1, lw_okq q := List.forall_mem_cons.mpr ⟨lw_p0, List.forall_mem_cons.mpr ⟨lw_p1, List.forall_mem_cons.mpr ⟨lw_p2, List.forall_mem_cons.mpr ⟨lw_p3, List.forall_mem_cons.mpr ⟨lw_p4, List.forall_mem_cons.mpr ⟨lw_p5, List.forall_mem_cons.mpr ⟨lw_p6, List.forall_mem_cons.mpr ⟨lw_p7, List.forall_mem_cons.mpr ⟨lw_p8, List.forall_mem_cons.mpr ⟨lw_p9, List.forall_mem_cons.mpr ⟨lw_p10, List.forall_mem_cons.mpr ⟨lw_p11, List.forall_mem_cons.mpr ⟨lw_p12, List.forall_mem_cons.mpr ⟨lw_p13, List.forall_mem_cons.mpr ⟨lw_p14, List.forall_mem_cons.mpr ⟨lw_p15, fun _ h => absurd h List.not_mem_nil⟩⟩⟩⟩⟩⟩⟩⟩⟩⟩⟩⟩⟩⟩⟩⟩
theorem lw_p16 : lw_okq (⟨"WordShapes$Reader", "readPoint", "()V"⟩, 8) := ⟨⟨by decide +kernel, by decide +kernel⟩, List.mem_of_getElem? (i := 62) (by decide +kernel), List.mem_of_getElem? (i := 477) (by decide +kernel), List.mem_of_getElem? (i := 478) (by decide +kernel)⟩
theorem lw_p17 : lw_okq (⟨"WordShapes$Reader", "readNumber", "()I"⟩, 8) := ⟨⟨by decide +kernel, by decide +kernel⟩, List.mem_of_getElem? (i := 62) (by decide +kernel), List.mem_of_getElem? (i := 485) (by decide +kernel), List.mem_of_getElem? (i := 486) (by decide +kernel)⟩
theorem lw_p18 : lw_okq (⟨"WordShapes$Reader", "passSign", "()V"⟩, 8) := ⟨⟨by decide +kernel, by decide +kernel⟩, List.mem_of_getElem? (i := 62) (by decide +kernel), List.mem_of_getElem? (i := 489) (by decide +kernel), List.mem_of_getElem? (i := 490) (by decide +kernel)⟩
theorem lw_p19 : lw_okq (⟨"WordShapes$Reader", "passDigits", "()I"⟩, 8) := ⟨⟨by decide +kernel, by decide +kernel⟩, List.mem_of_getElem? (i := 62) (by decide +kernel), List.mem_of_getElem? (i := 493) (by decide +kernel), List.mem_of_getElem? (i := 494) (by decide +kernel)⟩
theorem lw_p20 : lw_okq (⟨"WordShapes$Reader", "readExponent", "(I)I"⟩, 8) := ⟨⟨by decide +kernel, by decide +kernel⟩, List.mem_of_getElem? (i := 62) (by decide +kernel), List.mem_of_getElem? (i := 500) (by decide +kernel), List.mem_of_getElem? (i := 501) (by decide +kernel)⟩
theorem lw_p21 : lw_okq (⟨"WordShapes$Reader", "roundedUnits", "(III)J"⟩, 8) := ⟨⟨by decide +kernel, by decide +kernel⟩, List.mem_of_getElem? (i := 62) (by decide +kernel), List.mem_of_getElem? (i := 505) (by decide +kernel), List.mem_of_getElem? (i := 506) (by decide +kernel)⟩
theorem lw_p22 : lw_okq (⟨"WordShapes$Reader", "opensRing", "()Z"⟩, 8) := ⟨⟨by decide +kernel, by decide +kernel⟩, List.mem_of_getElem? (i := 62) (by decide +kernel), List.mem_of_getElem? (i := 519) (by decide +kernel), List.mem_of_getElem? (i := 520) (by decide +kernel)⟩
theorem lw_p23 : lw_okq (⟨"WordShapes$Reader", "goesOn", "()Z"⟩, 8) := ⟨⟨by decide +kernel, by decide +kernel⟩, List.mem_of_getElem? (i := 62) (by decide +kernel), List.mem_of_getElem? (i := 523) (by decide +kernel), List.mem_of_getElem? (i := 524) (by decide +kernel)⟩
theorem lw_p24 : lw_okq (⟨"WordShapes$Writer", "layItem", "(LWordShapes$Shape;)V"⟩, 10) := ⟨⟨by decide +kernel, by decide +kernel⟩, List.mem_of_getElem? (i := 115) (by decide +kernel), List.mem_of_getElem? (i := 569) (by decide +kernel), List.mem_of_getElem? (i := 570) (by decide +kernel)⟩
theorem lw_p25 : lw_okq (⟨"WordShapes$Writer", "put", "(I)V"⟩, 10) := ⟨⟨by decide +kernel, by decide +kernel⟩, List.mem_of_getElem? (i := 115) (by decide +kernel), List.mem_of_getElem? (i := 573) (by decide +kernel), List.mem_of_getElem? (i := 574) (by decide +kernel)⟩
theorem lw_p26 : lw_okq (⟨"WordShapes$Writer", "layWord", "(Ljava/lang/String;)V"⟩, 10) := ⟨⟨by decide +kernel, by decide +kernel⟩, List.mem_of_getElem? (i := 115) (by decide +kernel), List.mem_of_getElem? (i := 584) (by decide +kernel), List.mem_of_getElem? (i := 585) (by decide +kernel)⟩
theorem lw_p27 : lw_okq (⟨"WordShapes$Writer", "takeNumber", "(LWordShapes$Shape;)I"⟩, 10) := ⟨⟨by decide +kernel, by decide +kernel⟩, List.mem_of_getElem? (i := 115) (by decide +kernel), List.mem_of_getElem? (i := 590) (by decide +kernel), List.mem_of_getElem? (i := 591) (by decide +kernel)⟩
theorem lw_p28 : lw_okq (⟨"WordShapes$Writer", "layBody", "(II)V"⟩, 10) := ⟨⟨by decide +kernel, by decide +kernel⟩, List.mem_of_getElem? (i := 115) (by decide +kernel), List.mem_of_getElem? (i := 594) (by decide +kernel), List.mem_of_getElem? (i := 595) (by decide +kernel)⟩
theorem lw_p29 : lw_okq (⟨"WordShapes$Writer", "layPoint", "(LWordShapes$Shape;)V"⟩, 10) := ⟨⟨by decide +kernel, by decide +kernel⟩, List.mem_of_getElem? (i := 115) (by decide +kernel), List.mem_of_getElem? (i := 600) (by decide +kernel), List.mem_of_getElem? (i := 601) (by decide +kernel)⟩
theorem lw_p30 : lw_okq (⟨"WordShapes$Writer", "layNumber", "(I)V"⟩, 10) := ⟨⟨by decide +kernel, by decide +kernel⟩, List.mem_of_getElem? (i := 115) (by decide +kernel), List.mem_of_getElem? (i := 608) (by decide +kernel), List.mem_of_getElem? (i := 609) (by decide +kernel)⟩
theorem lw_p31 : lw_okq (⟨"WordShapesModel", "fail", "(I)I"⟩, 24) := ⟨⟨by decide +kernel, by decide +kernel⟩, List.mem_of_getElem? (i := 675) (by decide +kernel), List.mem_of_getElem? (i := 765) (by decide +kernel), List.mem_of_getElem? (i := 766) (by decide +kernel)⟩
def lw_privs_2 : List (MethodName × Nat) := [(⟨"WordShapes$Reader", "readPoint", "()V"⟩, 8), (⟨"WordShapes$Reader", "readNumber", "()I"⟩, 8), (⟨"WordShapes$Reader", "passSign", "()V"⟩, 8), (⟨"WordShapes$Reader", "passDigits", "()I"⟩, 8), (⟨"WordShapes$Reader", "readExponent", "(I)I"⟩, 8), (⟨"WordShapes$Reader", "roundedUnits", "(III)J"⟩, 8), (⟨"WordShapes$Reader", "opensRing", "()Z"⟩, 8), (⟨"WordShapes$Reader", "goesOn", "()Z"⟩, 8), (⟨"WordShapes$Writer", "layItem", "(LWordShapes$Shape;)V"⟩, 10), (⟨"WordShapes$Writer", "put", "(I)V"⟩, 10), (⟨"WordShapes$Writer", "layWord", "(Ljava/lang/String;)V"⟩, 10), (⟨"WordShapes$Writer", "takeNumber", "(LWordShapes$Shape;)I"⟩, 10), (⟨"WordShapes$Writer", "layBody", "(II)V"⟩, 10), (⟨"WordShapes$Writer", "layPoint", "(LWordShapes$Shape;)V"⟩, 10), (⟨"WordShapes$Writer", "layNumber", "(I)V"⟩, 10), (⟨"WordShapesModel", "fail", "(I)I"⟩, 24)]
theorem lw_r2 : ∀ q ∈ lw_privs_2, lw_okq q := List.forall_mem_cons.mpr ⟨lw_p16, List.forall_mem_cons.mpr ⟨lw_p17, List.forall_mem_cons.mpr ⟨lw_p18, List.forall_mem_cons.mpr ⟨lw_p19, List.forall_mem_cons.mpr ⟨lw_p20, List.forall_mem_cons.mpr ⟨lw_p21, List.forall_mem_cons.mpr ⟨lw_p22, List.forall_mem_cons.mpr ⟨lw_p23, List.forall_mem_cons.mpr ⟨lw_p24, List.forall_mem_cons.mpr ⟨lw_p25, List.forall_mem_cons.mpr ⟨lw_p26, List.forall_mem_cons.mpr ⟨lw_p27, List.forall_mem_cons.mpr ⟨lw_p28, List.forall_mem_cons.mpr ⟨lw_p29, List.forall_mem_cons.mpr ⟨lw_p30, List.forall_mem_cons.mpr ⟨lw_p31, fun _ h => absurd h List.not_mem_nil⟩⟩⟩⟩⟩⟩⟩⟩⟩⟩⟩⟩⟩⟩⟩⟩
theorem lw_p32 : lw_okq (⟨"WordShapesModel", "readAll", "()Z"⟩, 24) := ⟨⟨by decide +kernel, by decide +kernel⟩, List.mem_of_getElem? (i := 675) (by decide +kernel), List.mem_of_getElem? (i := 783) (by decide +kernel), List.mem_of_getElem? (i := 784) (by decide +kernel)⟩
theorem lw_p33 : lw_okq (⟨"WordShapesModel", "shape", "(I)I"⟩, 24) := ⟨⟨by decide +kernel, by decide +kernel⟩, List.mem_of_getElem? (i := 675) (by decide +kernel), List.mem_of_getElem? (i := 787) (by decide +kernel), List.mem_of_getElem? (i := 788) (by decide +kernel)⟩
theorem lw_p34 : lw_okq (⟨"WordShapesModel", "pass", "()V"⟩, 24) := ⟨⟨by decide +kernel, by decide +kernel⟩, List.mem_of_getElem? (i := 675) (by decide +kernel), List.mem_of_getElem? (i := 791) (by decide +kernel), List.mem_of_getElem? (i := 792) (by decide +kernel)⟩
theorem lw_p35 : lw_okq (⟨"WordShapesModel", "here", "()I"⟩, 24) := ⟨⟨by decide +kernel, by decide +kernel⟩, List.mem_of_getElem? (i := 675) (by decide +kernel), List.mem_of_getElem? (i := 798) (by decide +kernel), List.mem_of_getElem? (i := 799) (by decide +kernel)⟩
theorem lw_p36 : lw_okq (⟨"WordShapesModel", "unexpected", "()Z"⟩, 24) := ⟨⟨by decide +kernel, by decide +kernel⟩, List.mem_of_getElem? (i := 675) (by decide +kernel), List.mem_of_getElem? (i := 805) (by decide +kernel), List.mem_of_getElem? (i := 806) (by decide +kernel)⟩
theorem lw_p37 : lw_okq (⟨"WordShapesModel", "wrong", "(II)Z"⟩, 24) := ⟨⟨by decide +kernel, by decide +kernel⟩, List.mem_of_getElem? (i := 675) (by decide +kernel), List.mem_of_getElem? (i := 818) (by decide +kernel), List.mem_of_getElem? (i := 819) (by decide +kernel)⟩
theorem lw_p38 : lw_okq (⟨"WordShapesModel", "word", "()I"⟩, 24) := ⟨⟨by decide +kernel, by decide +kernel⟩, List.mem_of_getElem? (i := 675) (by decide +kernel), List.mem_of_getElem? (i := 822) (by decide +kernel), List.mem_of_getElem? (i := 823) (by decide +kernel)⟩
theorem lw_p39 : lw_okq (⟨"WordShapesModel", "room", "(II)Z"⟩, 24) := ⟨⟨by decide +kernel, by decide +kernel⟩, List.mem_of_getElem? (i := 675) (by decide +kernel), List.mem_of_getElem? (i := 826) (by decide +kernel), List.mem_of_getElem? (i := 827) (by decide +kernel)⟩
theorem lw_p40 : lw_okq (⟨"WordShapesModel", "open", "(I)I"⟩, 24) := ⟨⟨by decide +kernel, by decide +kernel⟩, List.mem_of_getElem? (i := 675) (by decide +kernel), List.mem_of_getElem? (i := 830) (by decide +kernel), List.mem_of_getElem? (i := 831) (by decide +kernel)⟩
theorem lw_p41 : lw_okq (⟨"WordShapesModel", "say", "(I)V"⟩, 24) := ⟨⟨by decide +kernel, by decide +kernel⟩, List.mem_of_getElem? (i := 675) (by decide +kernel), List.mem_of_getElem? (i := 834) (by decide +kernel), List.mem_of_getElem? (i := 835) (by decide +kernel)⟩
theorem lw_p42 : lw_okq (⟨"WordShapesModel", "looked", "(Z)I"⟩, 24) := ⟨⟨by decide +kernel, by decide +kernel⟩, List.mem_of_getElem? (i := 675) (by decide +kernel), List.mem_of_getElem? (i := 838) (by decide +kernel), List.mem_of_getElem? (i := 839) (by decide +kernel)⟩
theorem lw_p43 : lw_okq (⟨"WordShapesModel", "simple", "(I)I"⟩, 24) := ⟨⟨by decide +kernel, by decide +kernel⟩, List.mem_of_getElem? (i := 675) (by decide +kernel), List.mem_of_getElem? (i := 842) (by decide +kernel), List.mem_of_getElem? (i := 843) (by decide +kernel)⟩
theorem lw_p44 : lw_okq (⟨"WordShapesModel", "rings", "()I"⟩, 24) := ⟨⟨by decide +kernel, by decide +kernel⟩, List.mem_of_getElem? (i := 675) (by decide +kernel), List.mem_of_getElem? (i := 846) (by decide +kernel), List.mem_of_getElem? (i := 847) (by decide +kernel)⟩
theorem lw_p45 : lw_okq (⟨"WordShapesModel", "must", "(I)Z"⟩, 24) := ⟨⟨by decide +kernel, by decide +kernel⟩, List.mem_of_getElem? (i := 675) (by decide +kernel), List.mem_of_getElem? (i := 850) (by decide +kernel), List.mem_of_getElem? (i := 851) (by decide +kernel)⟩
theorem lw_p46 : lw_okq (⟨"WordShapesModel", "coordinates", "()I"⟩, 24) := ⟨⟨by decide +kernel, by decide +kernel⟩, List.mem_of_getElem? (i := 675) (by decide +kernel), List.mem_of_getElem? (i := 854) (by decide +kernel), List.mem_of_getElem? (i := 855) (by decide +kernel)⟩
theorem lw_p47 : lw_okq (⟨"WordShapesModel", "coordinate", "()Z"⟩, 24) := ⟨⟨by decide +kernel, by decide +kernel⟩, List.mem_of_getElem? (i := 675) (by decide +kernel), List.mem_of_getElem? (i := 858) (by decide +kernel), List.mem_of_getElem? (i := 859) (by decide +kernel)⟩
def lw_privs_3 : List (MethodName × Nat) := [(⟨"WordShapesModel", "readAll", "()Z"⟩, 24), (⟨"WordShapesModel", "shape", "(I)I"⟩, 24), (⟨"WordShapesModel", "pass", "()V"⟩, 24), (⟨"WordShapesModel", "here", "()I"⟩, 24), (⟨"WordShapesModel", "unexpected", "()Z"⟩, 24), (⟨"WordShapesModel", "wrong", "(II)Z"⟩, 24), (⟨"WordShapesModel", "word", "()I"⟩, 24), (⟨"WordShapesModel", "room", "(II)Z"⟩, 24), (⟨"WordShapesModel", "open", "(I)I"⟩, 24), (⟨"WordShapesModel", "say", "(I)V"⟩, 24), (⟨"WordShapesModel", "looked", "(Z)I"⟩, 24), (⟨"WordShapesModel", "simple", "(I)I"⟩, 24), (⟨"WordShapesModel", "rings", "()I"⟩, 24), (⟨"WordShapesModel", "must", "(I)Z"⟩, 24), (⟨"WordShapesModel", "coordinates", "()I"⟩, 24), (⟨"WordShapesModel", "coordinate", "()Z"⟩, 24)]
theorem lw_r3 : ∀ q ∈ lw_privs_3, lw_okq q := List.forall_mem_cons.mpr ⟨lw_p32, List.forall_mem_cons.mpr ⟨lw_p33, List.forall_mem_cons.mpr ⟨lw_p34, List.forall_mem_cons.mpr ⟨lw_p35, List.forall_mem_cons.mpr ⟨lw_p36, List.forall_mem_cons.mpr ⟨lw_p37, List.forall_mem_cons.mpr ⟨lw_p38, List.forall_mem_cons.mpr ⟨lw_p39, List.forall_mem_cons.mpr ⟨lw_p40, List.forall_mem_cons.mpr ⟨lw_p41, List.forall_mem_cons.mpr ⟨lw_p42, List.forall_mem_cons.mpr ⟨lw_p43, List.forall_mem_cons.mpr ⟨lw_p44, List.forall_mem_cons.mpr ⟨lw_p45, List.forall_mem_cons.mpr ⟨lw_p46, List.forall_mem_cons.mpr ⟨lw_p47, fun _ h => absurd h List.not_mem_nil⟩⟩⟩⟩⟩⟩⟩⟩⟩⟩⟩⟩⟩⟩⟩⟩
theorem lw_p48 : lw_okq (⟨"WordShapesModel", "number", "()Z"⟩, 24) := ⟨⟨by decide +kernel, by decide +kernel⟩, List.mem_of_getElem? (i := 675) (by decide +kernel), List.mem_of_getElem? (i := 862) (by decide +kernel), List.mem_of_getElem? (i := 863) (by decide +kernel)⟩
theorem lw_p49 : lw_okq (⟨"WordShapesModel", "digitsFrom", "()I"⟩, 24) := ⟨⟨by decide +kernel, by decide +kernel⟩, List.mem_of_getElem? (i := 675) (by decide +kernel), List.mem_of_getElem? (i := 866) (by decide +kernel), List.mem_of_getElem? (i := 867) (by decide +kernel)⟩
theorem lw_p50 : lw_okq (⟨"WordShapesModel", "rounded", "(IIJ)J"⟩, 24) := ⟨⟨by decide +kernel, by decide +kernel⟩, List.mem_of_getElem? (i := 675) (by decide +kernel), List.mem_of_getElem? (i := 873) (by decide +kernel), List.mem_of_getElem? (i := 874) (by decide +kernel)⟩
theorem lw_p51 : lw_okq (⟨"WordShapesModel", "goesOn", "()I"⟩, 24) := ⟨⟨by decide +kernel, by decide +kernel⟩, List.mem_of_getElem? (i := 675) (by decide +kernel), List.mem_of_getElem? (i := 880) (by decide +kernel), List.mem_of_getElem? (i := 881) (by decide +kernel)⟩
theorem lw_p52 : lw_okq (⟨"WordShapesModel", "close", "(II)V"⟩, 24) := ⟨⟨by decide +kernel, by decide +kernel⟩, List.mem_of_getElem? (i := 675) (by decide +kernel), List.mem_of_getElem? (i := 884) (by decide +kernel), List.mem_of_getElem? (i := 885) (by decide +kernel)⟩
theorem lw_p53 : lw_okq (⟨"WordShapesModel", "parts", "(I)I"⟩, 24) := ⟨⟨by decide +kernel, by decide +kernel⟩, List.mem_of_getElem? (i := 675) (by decide +kernel), List.mem_of_getElem? (i := 888) (by decide +kernel), List.mem_of_getElem? (i := 889) (by decide +kernel)⟩
theorem lw_p54 : lw_okq (⟨"WordShapesModel", "putAll", "(I)V"⟩, 24) := ⟨⟨by decide +kernel, by decide +kernel⟩, List.mem_of_getElem? (i := 675) (by decide +kernel), List.mem_of_getElem? (i := 900) (by decide +kernel), List.mem_of_getElem? (i := 901) (by decide +kernel)⟩
theorem lw_p55 : lw_okq (⟨"WordShapesModel", "putWord", "(I)V"⟩, 24) := ⟨⟨by decide +kernel, by decide +kernel⟩, List.mem_of_getElem? (i := 675) (by decide +kernel), List.mem_of_getElem? (i := 904) (by decide +kernel), List.mem_of_getElem? (i := 905) (by decide +kernel)⟩
theorem lw_p56 : lw_okq (⟨"WordShapesModel", "put", "(I)V"⟩, 24) := ⟨⟨by decide +kernel, by decide +kernel⟩, List.mem_of_getElem? (i := 675) (by decide +kernel), List.mem_of_getElem? (i := 908) (by decide +kernel), List.mem_of_getElem? (i := 909) (by decide +kernel)⟩
theorem lw_p57 : lw_okq (⟨"WordShapesModel", "putPoints", "(III)V"⟩, 24) := ⟨⟨by decide +kernel, by decide +kernel⟩, List.mem_of_getElem? (i := 675) (by decide +kernel), List.mem_of_getElem? (i := 912) (by decide +kernel), List.mem_of_getElem? (i := 913) (by decide +kernel)⟩
theorem lw_p58 : lw_okq (⟨"WordShapesModel", "putBetween", "()V"⟩, 24) := ⟨⟨by decide +kernel, by decide +kernel⟩, List.mem_of_getElem? (i := 675) (by decide +kernel), List.mem_of_getElem? (i := 916) (by decide +kernel), List.mem_of_getElem? (i := 917) (by decide +kernel)⟩
theorem lw_p59 : lw_okq (⟨"WordShapesModel", "putNumber", "(I)V"⟩, 24) := ⟨⟨by decide +kernel, by decide +kernel⟩, List.mem_of_getElem? (i := 675) (by decide +kernel), List.mem_of_getElem? (i := 920) (by decide +kernel), List.mem_of_getElem? (i := 921) (by decide +kernel)⟩
def lw_privs_4 : List (MethodName × Nat) := [(⟨"WordShapesModel", "number", "()Z"⟩, 24), (⟨"WordShapesModel", "digitsFrom", "()I"⟩, 24), (⟨"WordShapesModel", "rounded", "(IIJ)J"⟩, 24), (⟨"WordShapesModel", "goesOn", "()I"⟩, 24), (⟨"WordShapesModel", "close", "(II)V"⟩, 24), (⟨"WordShapesModel", "parts", "(I)I"⟩, 24), (⟨"WordShapesModel", "putAll", "(I)V"⟩, 24), (⟨"WordShapesModel", "putWord", "(I)V"⟩, 24), (⟨"WordShapesModel", "put", "(I)V"⟩, 24), (⟨"WordShapesModel", "putPoints", "(III)V"⟩, 24), (⟨"WordShapesModel", "putBetween", "()V"⟩, 24), (⟨"WordShapesModel", "putNumber", "(I)V"⟩, 24)]
theorem lw_r4 : ∀ q ∈ lw_privs_4, lw_okq q := List.forall_mem_cons.mpr ⟨lw_p48, List.forall_mem_cons.mpr ⟨lw_p49, List.forall_mem_cons.mpr ⟨lw_p50, List.forall_mem_cons.mpr ⟨lw_p51, List.forall_mem_cons.mpr ⟨lw_p52, List.forall_mem_cons.mpr ⟨lw_p53, List.forall_mem_cons.mpr ⟨lw_p54, List.forall_mem_cons.mpr ⟨lw_p55, List.forall_mem_cons.mpr ⟨lw_p56, List.forall_mem_cons.mpr ⟨lw_p57, List.forall_mem_cons.mpr ⟨lw_p58, List.forall_mem_cons.mpr ⟨lw_p59, fun _ h => absurd h List.not_mem_nil⟩⟩⟩⟩⟩⟩⟩⟩⟩⟩⟩⟩
def lw_privs : List (MethodName × Nat) := lw_privs_1 ++ (lw_privs_2 ++ (lw_privs_3 ++ (lw_privs_4)))
def lw_tbl : List Cond := k2_sels lw_privs ++ tables_1
theorem lw_privs_ok : ∀ q ∈ lw_privs, lw_okq q := by
  show ∀ q ∈ lw_privs_1 ++ (lw_privs_2 ++ (lw_privs_3 ++ (lw_privs_4))), lw_okq q
  exact List.forall_mem_append.mpr ⟨lw_r1, List.forall_mem_append.mpr ⟨lw_r2, List.forall_mem_append.mpr ⟨lw_r3, lw_r4⟩⟩⟩
end
section
/-! ===== BEGIN words of one list among another's, by their places ===== -/
theorem goodIn_r {big : List Cond} (ws : List Cond) (ps : List Nat) (hp : ws = ps.filterMap (fun i => big[i]?)) (h : ws.all goodWord = true) : GoodIn big ws := by
  intro w hw
  have h1 := List.all_eq_true.mp h w hw
  rw [hp] at hw
  obtain ⟨i, -, hi⟩ := List.mem_filterMap.mp hw
  have hm : w ∈ big := by first | exact List.mem_of_getElem? hi | exact List.getElem?_mem hi
  exact ⟨hm, good_of_word h1⟩
theorem goodIn_app {big a b : List Cond} (ha : GoodIn big a) (hb : GoodIn big b) : GoodIn big (a ++ b) := fun w h => (List.mem_append.mp h).elim (ha w) (hb w)
theorem goodIn_ca {big a b : List Cond} {c : Cond} (ha : GoodIn big (c :: a)) (hb : GoodIn big b) : GoodIn big (c :: (a ++ b)) := fun w h => (List.mem_cons.mp h).elim (fun e => ha w (List.mem_cons.mpr (Or.inl e))) (fun h => (List.mem_append.mp h).elim (fun h => ha w (List.mem_cons.mpr (Or.inr h))) (hb w))
theorem goodIn_sub {big ws : List Cond} (hm : ∀ w ∈ ws, w ∈ big) (h : ws.all goodWord = true) : GoodIn big ws := fun w hw => ⟨hm w hw, good_of_word (List.all_eq_true.mp h w hw)⟩
/-! ===== END ===== -/

/-! ===== BEGIN exceptions that leave a method, and their catching by the caller (launches without stack traces) ===== -/
section VXA
/-! The laws vx_back, vx_callV, vx_callS, vx_callSW, vx_throw0, vx_throwS follow proofs of the library, with one case more: JvmDerived/Free/Laws.lean (Back.of_free), Shelf42/LK1.lean (callV, callS), Shelf/KitTraced.lean (throwNew0V, throwNewS). -/
/-- where a method has thrown q: the class by its name, the cell, what was written, the world -/
def vx_T (XC : String → State → State → Prop) (st : State) (q : Addr) (t : State) (mc ms : Nat) (free : Addr → Prop) : Prop :=
  ∃ (E : String) (ce : Cell) (L : List Loc), XC E st t ∧ t.heap[q]? = some ce ∧ ce.vm = .none ∧ st.vm.findClass E = some ce.cls ∧ st.WarmedH t.vm ∧ st.sameButNew ({ t with vm := st.vm } : State) L mc ms ∧ ∀ z ∈ L, free z.base
def vx_Q (Qc : Array Value → State → Outcome → State → Prop) (XC : String → State → State → Prop) (mc ms : Nat) (free : Addr → Prop) : Array Value → State → Outcome → State → Prop := fun a st o t =>
  (Qc a st o t ∧ ∃ L, FrameEnd st o t L mc ms ∧ ∀ q ∈ L, free q.base) ∨ ∃ q, o = .threw q ∧ vx_T XC st q t mc ms free
/-- a callee that returns or throws -/
def vx_Met (l : Launch) (y : MethodName) (ws : List Cond) (rm : Room) (Pc : Array Value → State → Prop) (Qc : Array Value → State → Outcome → State → Prop) (XC : String → State → State → Prop) (mc ms : Nat) (free : Addr → Prop) : Prop :=
  MetFree l y (headSpec ws rm) Pc (fun _ _ _ _ _ => True) (vx_Q Qc XC mc ms free)
def vx_Post (XC : String → State → State → Prop) (mc ms : Nat) (free : Addr → Prop) : Pt → Array Value → Addr → Pt → Prop := fun A a q B =>
  ∃ (g : JFrame) (mk : MethodId) (t : State) (L : List Loc) (E : String) (ce : Cell), B.U.heap = t.heap ∧ B.U.vm = t.vm ∧ XC E (A.U.calling g mk a) t ∧ t.heap[q]? = some ce ∧ ce.vm = .none ∧ A.U.vm.findClass E = some ce.cls ∧ B.locs = A.locs ++ L ∧ (∀ z ∈ L, free z.base) ∧ B.cells = A.cells + mc ∧ B.slots = A.slots + ms
def vx_Back (l : Launch) (R : Room) (p : Program) (e : Env) (below : List Frame) (s : State) (sargs : Array Value) (y : MethodName) (len W9 : Nat)
    (Pre : Pt → Array Value → Prop) (Post : Pt → Array Value → Option Value → Pt → Prop) (PostX : Pt → Array Value → Addr → Pt → Prop) : Prop :=
  ∀ (m : MethodId) (meth : Method) (c : Code) (A : Pt) (g : JFrame) (ig : Instr) (mk : MethodId) (a : Array Value),
    Stand p l e R s m sargs below meth c A.U A.locs A.cells A.slots → g.method = m → g.locals.size = c.maxLocals → decode c.code g.pc = .ok (ig, len) →
    2 * g.monitorRoom + (g.stack.map fun v => v.category).sum ≤ W9 → A.U.methodNamed? y = some mk → Pre A a →
    (∃ (v : Option Value) (B : Pt), Stand p l e R s m sargs below meth c B.U B.locs B.cells B.slots ∧ Post A a v B ∧
      Steps p.tables e below (doInvoke e (A.U.setTop g) [] mk a).1 (B.U.setTop { g with pc := g.pc + len, stack := v.toList ++ g.stack })) ∨
    (∃ (q : Addr) (B : Pt), Stand p l e R s m sargs below meth c B.U B.locs B.cells B.slots ∧ PostX A a q B ∧
      Steps p.tables e below (doInvoke e (A.U.setTop g) [] mk a).1 ((B.U.setTop g).pushFrame (.throwing q)))
section Payer
variable {l : Launch} {R : Room} {p : Program} {e : Env} {below : List Frame} {s : State} {sargs : Array Value} {y : MethodName} {len W9 : Nat}
theorem vx_back {ws : List Cond} {rm : Room} {Pc : Array Value → State → Prop} {Qc : Array Value → State → Outcome → State → Prop} {XC : String → State → State → Prop} {mc ms : Nat} {free : Addr → Prop} {bytes : ByteArray} {maxL : Nat} {ret : Option FieldType}
    (hM : vx_Met l y ws rm Pc Qc XC mc ms free) (hblind : FrameBlind Pc) (hrc : rm.cells = mc) (hrs : rm.slots = ms)
    (hframes : rm.frames + 1 ≤ R.frames) (hlocals : W9 + (maxL + 11) + rm.locals ≤ R.locals)
    (hws : ∀ w ∈ ws, ∀ a' U, s.WarmedH U.vm → w.before a' U = true) (hcode : Cond.code y bytes maxL ret ∈ ws) (hinit : ∀ a' U, s.WarmedH U.vm → (Cond.initialized y.cls).before a' U = true) :
    vx_Back l R p e below s sargs y len W9 (PreOf R mc ms Pc) (PostOf Qc mc ms free) (vx_Post XC mc ms free) := by
  intro m meth c A g ig mk a X hg hsize hdg hW hn hp
  have h1 : (headSpec ws rm).pre.before a A.U = true := atoms_intro fun w hw => hws w hw _ _ X.warmed
  have h2 : (Cond.code y bytes maxL ret).before a A.U = true := hws _ hcode _ _ X.warmed
  have h3 : (Cond.initialized y.cls).before a A.U = true := hinit _ _ X.warmed
  have h4 : A.cells + (headSpec ws rm).room.cells ≤ R.cells := by rw [show (headSpec ws rm).room.cells = mc from hrc]; exact hp.1
  have h5 : A.slots + (headSpec ws rm).room.slots ≤ R.slots := by rw [show (headSpec ws rm).room.slots = ms from hrs]; exact hp.2.1
  have hPc : Pc a (A.U.calling g mk a) := hblind _ _ _ _ hp.2.2
  obtain ⟨U, Ls, c0, s0⟩ := A
  dsimp only [Pt.U, Pt.locs, Pt.cells, Pt.slots] at h1 h2 h3 h4 h5 X hn hPc ⊢
  obtain ⟨methY, cY, hmY, hcY, -, hlY, -, -, -, -⟩ := Cond.code_spec hn h2
  obtain ⟨kY, hkY, -⟩ := className_of_methodNamed hn
  have hinitY : kY.init = .initialized := Cond.initialized_spec (findClass_of_methodNamed hn) hkY h3
  have h : At U g.method c below := by rw [hg]; exact X.here
  have hlocals9 : W9 + (maxL + 11) + (headSpec ws rm).room.locals ≤ R.locals := hlocals
  have happ : (headSpec ws rm).appliesLoose y e.platform (U.calling g mk a) = true :=
    Spec.appliesLoose_calling (g := g) h hdg hn hkY hinitY
      (X.room_calling (g := g) (R' := (headSpec ws rm).room) hsize hmY hcY hframes (by rw [hlY]; omega) h4 h5) h1
  obtain ⟨mid, hmid⟩ := h.above
  have hfr : (U.setTop g).frames = (.java g :: mid) ++ below := by rw [State.frames_setTop' g h.top, hmid]; rfl
  obtain ⟨o, s₂, hsteps, -, hend, hq⟩ := Steps.callFree hM p X.admits X.cas X.clock (acts := []) hfr happ hPc trivial
  have hq' : vx_Q Qc XC mc ms free a (U.calling g mk a) o s₂ := hq
  rw [State.frames_setTop' g h.top] at hend
  obtain ⟨g₀, hg0⟩ := Option.isSome_iff_exists.mp h.top
  obtain ⟨r, hr⟩ := State.topJava?_eq_some.mp hg0
  have hr' : (({ U with heap := s₂.heap, slotsUsed := s₂.slotsUsed } : State).setVm s₂.vm).frames = .java g₀ :: r := hr
  rcases hq' with ⟨hqc, L, hfe, hL⟩ | ⟨q, rfl, E, ce, L, hx, hce, hcv, hcl, hW₂, hsm, hL⟩
  · obtain ⟨⟨v, rfl⟩, hW₂, e2, q2, q3, q4, q5, q6⟩ := id hfe
    have e3 : s₂ = ({ (U.calling g mk a).setFrames s₂.frames with heap := s₂.heap, slotsUsed := s₂.slotsUsed } : State).setVm s₂.vm := by
      have : s₂ = ({ s₂ with vm := (U.calling g mk a).vm } : State).setVm s₂.vm := rfl
      rw [e2] at this
      exact this
    obtain ⟨c₂, i₂, len₂, hc₂, hd₂, hf₂⟩ := hend
    have hW' : U.WarmedH s₂.vm := hW₂
    have hcc : c₂ = c := by
      have h1 : s₂.code? g.method = U.code? g.method := by
        rw [State.code?_eq, State.code?_eq, hW'.alike.method?]
      exact Option.some.inj (hc₂.symm.trans (h1.trans h.code))
    subst hcc
    have hlen : len₂ = len := by rw [hdg] at hd₂; cases hd₂; rfl
    subst hlen
    have hs₂ : s₂ = (({ U with heap := s₂.heap, slotsUsed := s₂.slotsUsed } : State).setVm s₂.vm).setTop { g with pc := g.pc + len₂, stack := v.toList ++ g.stack } := by
      refine e3.trans ?_
      rw [hf₂, State.calling_eq h.top, State.setFrames_setFrames, State.setTop_of_frames _ hr', hr]
      rfl
    have hsame : U.sameButNew ({ U with heap := s₂.heap, slotsUsed := s₂.slotsUsed } : State) L mc ms := by
      refine ⟨?_, q2, q3, q4, q5, q6⟩
      obtain ⟨t, ht, -⟩ := State.frames_cons hr
      show ({ U with heap := s₂.heap, slotsUsed := s₂.slotsUsed } : State) = { U.setFrames U.frames with heap := s₂.heap, slotsUsed := s₂.slotsUsed }
      rw [State.setFrames_self ht]
    subst hg
    refine Or.inl ⟨v, ⟨(({ U with heap := s₂.heap, slotsUsed := s₂.slotsUsed } : State).setVm s₂.vm), Ls ++ L, c0 + mc, s0 + ms⟩,
      ⟨X.admits, X.cas, X.clock, X.frames, X.room, X.hears, X.method, X.code, (X.here.setHeapUsed s₂.heap s₂.slotsUsed).setVm hW'.alike, X.tail, State.WarmedH.trans X.warmed hW', X.limits, X.bytes, X.same.trans (hsame.setVm s.vm)⟩,
      ⟨g, mk, s₂, L, rfl, rfl, hqc, rfl, hL, rfl, rfl⟩, ?_⟩
    show Steps p.tables e below _ ((({ U with heap := s₂.heap, slotsUsed := s₂.slotsUsed } : State).setVm s₂.vm).setTop { g with pc := g.pc + len₂, stack := v.toList ++ g.stack })
    rw [← hs₂]
    exact hsteps
  · obtain ⟨e2, q2, q3, q4, q5, q6⟩ := id hsm
    have e3 : s₂ = ({ (U.calling g mk a).setFrames s₂.frames with heap := s₂.heap, slotsUsed := s₂.slotsUsed } : State).setVm s₂.vm := by
      have : s₂ = ({ s₂ with vm := (U.calling g mk a).vm } : State).setVm s₂.vm := rfl
      rw [e2] at this
      exact this
    have hf₂ : s₂.frames = .throwing q :: .java g :: U.frames.tail := hend
    have hW' : U.WarmedH s₂.vm := hW₂
    have hs₂ : s₂ = ((({ U with heap := s₂.heap, slotsUsed := s₂.slotsUsed } : State).setVm s₂.vm).setTop g).pushFrame (.throwing q) := by
      refine e3.trans ?_
      rw [hf₂, State.calling_eq h.top, State.setFrames_setFrames, State.pushFrame, State.frames_setTop _ hr', State.setTop_of_frames _ hr', State.setFrames_setFrames, hr]
      rfl
    have hsame : U.sameButNew ({ U with heap := s₂.heap, slotsUsed := s₂.slotsUsed } : State) L mc ms := by
      refine ⟨?_, q2, q3, q4, q5, q6⟩
      obtain ⟨t, ht, -⟩ := State.frames_cons hr
      show ({ U with heap := s₂.heap, slotsUsed := s₂.slotsUsed } : State) = { U.setFrames U.frames with heap := s₂.heap, slotsUsed := s₂.slotsUsed }
      rw [State.setFrames_self ht]
    subst hg
    refine Or.inr ⟨q, ⟨(({ U with heap := s₂.heap, slotsUsed := s₂.slotsUsed } : State).setVm s₂.vm), Ls ++ L, c0 + mc, s0 + ms⟩,
      ⟨X.admits, X.cas, X.clock, X.frames, X.room, X.hears, X.method, X.code, (X.here.setHeapUsed s₂.heap s₂.slotsUsed).setVm hW'.alike, X.tail, State.WarmedH.trans X.warmed hW', X.limits, X.bytes, X.same.trans (hsame.setVm s.vm)⟩,
      ⟨g, mk, s₂, L, E, ce, rfl, rfl, hx, hce, hcv, hcl, rfl, hL, rfl, rfl⟩, ?_⟩
    show Steps p.tables e below _ (((({ U with heap := s₂.heap, slotsUsed := s₂.slotsUsed } : State).setVm s₂.vm).setTop g).pushFrame (.throwing q))
    rw [← hs₂]
    exact hsteps
end Payer
section Calls
variable {p : Program} {l : Launch} {e : Env} {R : Room} {s : State} {m : MethodId} {args : Array Value} {below : List Frame} {meth : Method} {c : Code} {T : State} {locs : List Loc} {cells slots : Nat}
theorem vx_callV (X : Stand p l e R s m args below meth c T locs cells slots) (hexec : p.tables.exec = Jvm.exec) {own C : String} {index : Nat} {y : MethodName} {bytes : ByteArray} {maxL : Nat} {ret : Option FieldType}
    (hown : s.vm.findClass own = some m.cls) (hlink : (Cond.methodLink own index y).before args s = true) (hinst : (Cond.instanceMethod y).before args s = true) (hsel : (Cond.selects C y y).before args s = true)
    (hcode : (Cond.code y bytes maxL ret).before args s = true) (hy : y.cls ≠ "java/lang/invoke/MethodHandle" ∧ y.cls ≠ "java/lang/invoke/VarHandle")
    {W9 : Nat} {Pre : Pt → Array Value → Prop} {Post : Pt → Array Value → Option Value → Pt → Prop} {PostX : Pt → Array Value → Addr → Pt → Prop} (hK : vx_Back l R p e below s args y 3 W9 Pre Post PostX)
    {b : Addr} {cellB : Cell} (hcell : T.heap[b]? = some cellB) (hobj : cellB.vm.isStatics = false) (hcls : s.vm.findClass C = some cellB.cls)
    {g : JFrame} (hg : g.method = m) (hsize : g.locals.size = c.maxLocals) {argsL rest : List Value} (hlen : ∀ sig, parseMethodDescriptor y.desc = some sig → argsL.length = sig.parameters.length)
    (hstack : g.stack = argsL.reverse ++ .ref b :: rest) (hW : 2 * g.monitorRoom + (rest.map fun v => v.category).sum ≤ W9) (hdg : decode c.code g.pc = .ok (.invokevirtual index, 3))
    (hpre : ∀ vm₁, s.WarmedH vm₁ → Pre ⟨T.setVm vm₁, locs, cells, slots⟩ (Value.ref b :: argsL).toArray) :
    (∃ (v : Option Value) (vm₁ : Vm) (B : Pt), s.WarmedH vm₁ ∧ Stand p l e R s m args below meth c B.U B.locs B.cells B.slots ∧ Post ⟨T.setVm vm₁, locs, cells, slots⟩ (Value.ref b :: argsL).toArray v B ∧
      ∀ target, Steps p.tables e below (B.U.setTop { g with pc := g.pc + 3, stack := v.toList ++ rest }) target → Steps p.tables e below (T.setTop g) target) ∨
    (∃ (q : Addr) (vm₁ : Vm) (B : Pt), s.WarmedH vm₁ ∧ Stand p l e R s m args below meth c B.U B.locs B.cells B.slots ∧ PostX ⟨T.setVm vm₁, locs, cells, slots⟩ (Value.ref b :: argsL).toArray q B ∧
      Steps p.tables e below (T.setTop g) ((B.U.setTop { g with stack := rest }).pushFrame (.throwing q))) := by
  obtain ⟨mk, methM, hnamed, hmethM, hstM, habM⟩ := Cond.instanceMethod_spec hinst
  obtain ⟨methM', cM, hmethM', -, -, -, -, -, -, hsigM⟩ := Cond.code_spec hnamed hcode
  cases hmethM.symm.trans hmethM'
  obtain ⟨c2, r2, m2, q1, q2, q3, q4, kP, hkP, hkPi⟩ := Cond.selects_spec hsel
  cases hcls.symm.trans q1
  cases (State.methodFound?_of_named hnamed hy).symm.trans q2
  cases hnamed.symm.trans q3
  have hselP : selectMethod e.platform s.vm cellB.cls mk = .method mk := by rw [Launch.admits_selectMethod X.admits]; exact q4
  obtain ⟨vm₁, X₁, hstep₁⟩ := X.invokevirtual hexec hown hlink hnamed hmethM hstM hkP hkPi hy (a := b) (cell := cellB) hcell
    (fun z h => by rw [h] at hobj; cases hobj) hselP hmethM habM hkP hkPi (g := g) hg (argsL := argsL) (rest := rest) (hlen _ hsigM) hstack hdg
  rcases hK m meth c ⟨T.setVm vm₁, locs, cells, slots⟩ { g with stack := rest } (.invokevirtual index) mk (Value.ref b :: argsL).toArray X₁ hg hsize hdg hW (X₁.named hnamed) (hpre vm₁ X₁.warmed) with ⟨v, B, X', hpost, hsteps⟩ | ⟨q, B, X', hpost, hsteps⟩
  · exact Or.inl ⟨v, vm₁, B, X₁.warmed, X', hpost, fun target h => hstep₁ _ fun acts => by rw [doInvoke_state]; exact hsteps.trans h⟩
  · exact Or.inr ⟨q, vm₁, B, X₁.warmed, X', hpost, hstep₁ _ fun acts => by rw [doInvoke_state]; exact hsteps⟩
theorem vx_callS (X : Stand p l e R s m args below meth c T locs cells slots) (hexec : p.tables.exec = Jvm.exec) {own : String} {index : Nat} {y : MethodName} {bytes : ByteArray} {maxL : Nat} {ret : Option FieldType}
    (hown : s.vm.findClass own = some m.cls) (hlink : (Cond.methodLink own index y).before args s = true) (hstat : (Cond.static y).before args s = true) (hinit : (Cond.initialized y.cls).before args s = true)
    (hcode : (Cond.code y bytes maxL ret).before args s = true) (hy : y.cls ≠ "java/lang/invoke/MethodHandle" ∧ y.cls ≠ "java/lang/invoke/VarHandle")
    {W9 : Nat} {Pre : Pt → Array Value → Prop} {Post : Pt → Array Value → Option Value → Pt → Prop} {PostX : Pt → Array Value → Addr → Pt → Prop} (hK : vx_Back l R p e below s args y 3 W9 Pre Post PostX)
    {g : JFrame} (hg : g.method = m) (hsize : g.locals.size = c.maxLocals) {argsL rest : List Value} (hlen : ∀ sig, parseMethodDescriptor y.desc = some sig → argsL.length = sig.parameters.length)
    (hstack : g.stack = argsL.reverse ++ rest) (hW : 2 * g.monitorRoom + (rest.map fun v => v.category).sum ≤ W9) (hdg : decode c.code g.pc = .ok (.invokestatic index, 3))
    (hpre : ∀ vm₁, s.WarmedH vm₁ → Pre ⟨T.setVm vm₁, locs, cells, slots⟩ argsL.toArray) :
    (∃ (v : Option Value) (vm₁ : Vm) (B : Pt), s.WarmedH vm₁ ∧ Stand p l e R s m args below meth c B.U B.locs B.cells B.slots ∧ Post ⟨T.setVm vm₁, locs, cells, slots⟩ argsL.toArray v B ∧
      ∀ target, Steps p.tables e below (B.U.setTop { g with pc := g.pc + 3, stack := v.toList ++ rest }) target → Steps p.tables e below (T.setTop g) target) ∨
    (∃ (q : Addr) (vm₁ : Vm) (B : Pt), s.WarmedH vm₁ ∧ Stand p l e R s m args below meth c B.U B.locs B.cells B.slots ∧ PostX ⟨T.setVm vm₁, locs, cells, slots⟩ argsL.toArray q B ∧
      Steps p.tables e below (T.setTop g) ((B.U.setTop { g with stack := rest }).pushFrame (.throwing q))) := by
  obtain ⟨mk, hnamed⟩ := Cond.code_named hcode
  obtain ⟨methM, cM, hmethM, -, -, -, -, -, -, hsigM⟩ := Cond.code_spec hnamed hcode
  have hstatic : methM.isStatic = true := Cond.static_spec hnamed hmethM hstat
  obtain ⟨kP, hkP, -⟩ := className_of_methodNamed hnamed
  have hinitP : kP.init = .initialized := Cond.initialized_spec (findClass_of_methodNamed hnamed) hkP hinit
  obtain ⟨vm₁, X₁, hstep₁⟩ := X.invokestatic hexec hown hlink hnamed hmethM hstatic hkP hinitP hy (g := g) hg (argsL := argsL) (rest := rest) (hlen _ hsigM) hstack hdg
  rcases hK m meth c ⟨T.setVm vm₁, locs, cells, slots⟩ { g with stack := rest } (.invokestatic index) mk argsL.toArray X₁ hg hsize hdg hW (X₁.named hnamed) (hpre vm₁ X₁.warmed) with ⟨v, B, X', hpost, hsteps⟩ | ⟨q, B, X', hpost, hsteps⟩
  · exact Or.inl ⟨v, vm₁, B, X₁.warmed, X', hpost, fun target h => hstep₁ _ fun acts => by rw [doInvoke_state]; exact hsteps.trans h⟩
  · exact Or.inr ⟨q, vm₁, B, X₁.warmed, X', hpost, hstep₁ _ fun acts => by rw [doInvoke_state]; exact hsteps⟩
end Calls
theorem vx_cls {s : State} {T : State} {vm₁ : Vm} {E : String} {k : ClassId} (hW : s.WarmedH vm₁) (h : (T.setVm vm₁).vm.findClass E = some k) : s.vm.findClass E = some k := by
  have h1 : vm₁.findClass E = some k := h
  rw [hW.alike.findClass] at h1
  exact h1
/-- the method's frame g, with q thrown over it -/
def vx_W (p : Program) (l : Launch) (e : Env) (R : Room) (s : State) (m : MethodId) (args : Array Value) (below : List Frame) (meth : Method) (c : Code) (H : Heap) (locs : List Loc) (cells slots : Nat) (Q : State → Prop) (g : JFrame) (q : Addr) : Prop :=
  ∀ T : State, T.heap = H → Stand p l e R s m args below meth c T locs cells slots → ∃ t, Steps p.tables e below ((T.setTop g).pushFrame (.throwing q)) t ∧ Q t
def vx_Run (p : Program) (l : Launch) (e : Env) (R : Room) (s : State) (m : MethodId) (args : Array Value) (below : List Frame) (meth : Method) (c : Code) (H : Heap) (locs : List Loc) (cells slots mc ms : Nat) (g : JFrame) (rest : List Value) (Qa : State → Outcome → State → Prop) (XC : String → State → State → Prop) (free : Addr → Prop) : Prop :=
  ∀ T : State, T.heap = H → Stand p l e R s m args below meth c T locs cells slots →
    (∃ (v : Option Value) (st₀ t T' : State) (L : List Loc), st₀.heap = H ∧ Stand p l e R s m args below meth c T' (locs ++ L) (cells + mc) (slots + ms) ∧ (∀ q ∈ L, free q.base) ∧ T'.heap = t.heap ∧ T'.vm = t.vm ∧ Qa st₀ (.returned v) t ∧
      Goes p e below T g T' { g with pc := g.pc + 3, stack := v.toList ++ rest }) ∨
    (∃ (q : Addr) (st₀ t T' : State) (L : List Loc) (E : String) (ce : Cell), st₀.heap = H ∧ Stand p l e R s m args below meth c T' (locs ++ L) (cells + mc) (slots + ms) ∧ (∀ z ∈ L, free z.base) ∧ T'.heap = t.heap ∧ T'.vm = t.vm ∧ XC E st₀ t ∧ t.heap[q]? = some ce ∧ ce.vm = .none ∧ s.vm.findClass E = some ce.cls ∧
      Steps p.tables e below (T.setTop g) ((T'.setTop { g with stack := rest }).pushFrame (.throwing q)))
def vx_X {S : Type} (px : S → Prop) (B : String → S → State → Prop) (A : Nat → Prop) : String → State → State → Prop := fun E st t => ∃ u : S, px u ∧ B E u t ∧ va_F A st t
section Runs
variable {p : Program} {l : Launch} {e : Env} {R : Room} {s : State} {m : MethodId} {args : Array Value} {below : List Frame} {meth : Method} {c : Code} {H : Heap} {locs : List Loc} {cells slots : Nat}
variable {y : MethodName} {bytes cc : ByteArray} {maxL nL mc ms n index : Nat} {ret : Option FieldType} {ws : List Cond} {rm : Room} {Pc : Array Value → State → Prop} {Qc : Array Value → State → Outcome → State → Prop} {XC : String → State → State → Prop} {free : Addr → Prop} {Ts : List Cond} {own C : String} {b : Addr} {As rest : List Value} {g : JFrame}
theorem vx_callBack (cb : CallB R s args own index y bytes maxL ret ws rm mc ms n) (hM : vx_Met l y ws rm Pc Qc XC mc ms free) (hbl : FrameBlind Pc) : vx_Back l R p e below s args y 3 8 (PreOf R mc ms Pc) (PostOf Qc mc ms free) (vx_Post XC mc ms free) := by
  obtain ⟨hrc, hrs, hfr, hlo, hws, hcw, -, hini, -⟩ := cb
  exact vx_back (bytes := bytes) (maxL := maxL) (ret := ret) hM hbl hrc hrs hfr hlo hws hcw (fun a' U hW => word_at hW (Or.inl (by first | rfl | simp [Cond.onTables, Cond.keeps, Cond.steady])) hini)
theorem vx_runV (S : CallFix p m c cc nL s args Ts own) (hM : vx_Met l y ws rm Pc Qc XC mc ms free) (cw : CallW R s args own C index y bytes maxL ret ws rm mc ms n) (hp : PreV s H C b Pc As)
    (hg : g.method = m) (hn : As.length = n) (hsize : g.locals.size = nL) (hstack : g.stack = As.reverse ++ .ref b :: rest) (hW : 2 * g.monitorRoom + (rest.map fun v => v.category).sum ≤ 8) (hdg : decode cc g.pc = .ok (.invokevirtual index, 3)) (hf : cells + mc ≤ R.cells ∧ slots + ms ≤ R.slots) :
    vx_Run p l e R s m args below meth c H locs cells slots mc ms g rest (Qc (Value.ref b :: As).toArray) XC free := by
  have hK : vx_Back l R p e below s args y 3 8 (PreOf R mc ms Pc) (PostOf Qc mc ms free) (vx_Post XC mc ms free) := vx_callBack cw.1 hM hp.1
  obtain ⟨⟨-, -, -, -, -, -, hcode, -, hy, hlen, hl⟩, hin, hse⟩ := cw
  obtain ⟨hx, hb, hml, ho, -⟩ := S
  obtain ⟨-, ⟨cellB, hcB, hoB, hclB⟩, hPc⟩ := hp
  intro T hT X
  rcases vx_callV X hx (C := C) (bytes := bytes) (maxL := maxL) (ret := ret) ho hl hin hse hcode hy hK (by rw [hT]; exact hcB) hoB hclB hg (hsize.trans hml.symm) (argsL := As) (rest := rest) (fun sig h => hn.trans (hlen sig h)) hstack hW (by rw [hb]; exact hdg)
    (fun vm₁ hW₁ => ⟨hf.1, hf.2, hPc (T.setVm vm₁) hT hW₁⟩) with ⟨v, vm₁, ⟨U', l2, c2, s2⟩, hW₁, X', ⟨g', mk, t, L, e1, e2, hq, h1, hL, h2, h3⟩, st⟩ | ⟨q, vm₁, ⟨U', l2, c2, s2⟩, hW₁, X', ⟨g', mk, t, L, E, ce, e1, e2, hq, hce, hcv, hcl, h1, hL, h2, h3⟩, st⟩
  · dsimp only [Pt.U, Pt.locs, Pt.cells, Pt.slots] at X' e1 e2 h1 h2 h3 st
    subst h1; subst h2; subst h3
    exact Or.inl ⟨v, (T.setVm vm₁).calling g' mk (Value.ref b :: As).toArray, t, U', L, hT, X', hL, e1, e2, hq, st⟩
  · dsimp only [Pt.U, Pt.locs, Pt.cells, Pt.slots] at X' e1 e2 h1 h2 h3 st hcl
    subst h1; subst h2; subst h3
    exact Or.inr ⟨q, (T.setVm vm₁).calling g' mk (Value.ref b :: As).toArray, t, U', L, E, ce, hT, X', hL, e1, e2, hq, hce, hcv, vx_cls hW₁ hcl, st⟩
theorem vx_runS (S : CallFix p m c cc nL s args Ts own) (hM : vx_Met l y ws rm Pc Qc XC mc ms free) (cw : CallB R s args own index y bytes maxL ret ws rm mc ms n ∧ (Cond.static y).before args s = true) (hp : PreS s H Pc As)
    (hg : g.method = m) (hn : As.length = n) (hsize : g.locals.size = nL) (hstack : g.stack = As.reverse ++ rest) (hW : 2 * g.monitorRoom + (rest.map fun v => v.category).sum ≤ 8) (hdg : decode cc g.pc = .ok (.invokestatic index, 3)) (hf : cells + mc ≤ R.cells ∧ slots + ms ≤ R.slots) :
    vx_Run p l e R s m args below meth c H locs cells slots mc ms g rest (Qc As.toArray) XC free := by
  have hK : vx_Back l R p e below s args y 3 8 (PreOf R mc ms Pc) (PostOf Qc mc ms free) (vx_Post XC mc ms free) := vx_callBack cw.1 hM hp.1
  obtain ⟨⟨-, -, -, -, -, -, hcode, hini, hy, hlen, hl⟩, hstt⟩ := cw
  obtain ⟨hx, hb, hml, ho, -⟩ := S
  intro T hT X
  rcases vx_callS X hx (bytes := bytes) (maxL := maxL) (ret := ret) ho hl hstt hini hcode hy hK hg (hsize.trans hml.symm) (argsL := As) (rest := rest) (fun sig h => hn.trans (hlen sig h)) hstack hW (by rw [hb]; exact hdg)
    (fun vm₁ hW₁ => ⟨hf.1, hf.2, hp.2 (T.setVm vm₁) hT hW₁⟩) with ⟨v, vm₁, ⟨U', l2, c2, s2⟩, hW₁, X', ⟨g', mk, t, L, e1, e2, hq, h1, hL, h2, h3⟩, st⟩ | ⟨q, vm₁, ⟨U', l2, c2, s2⟩, hW₁, X', ⟨g', mk, t, L, E, ce, e1, e2, hq, hce, hcv, hcl, h1, hL, h2, h3⟩, st⟩
  · dsimp only [Pt.U, Pt.locs, Pt.cells, Pt.slots] at X' e1 e2 h1 h2 h3 st
    subst h1; subst h2; subst h3
    exact Or.inl ⟨v, (T.setVm vm₁).calling g' mk As.toArray, t, U', L, hT, X', hL, e1, e2, hq, st⟩
  · dsimp only [Pt.U, Pt.locs, Pt.cells, Pt.slots] at X' e1 e2 h1 h2 h3 st hcl
    subst h1; subst h2; subst h3
    exact Or.inr ⟨q, (T.setVm vm₁).calling g' mk As.toArray, t, U', L, E, ce, hT, X', hL, e1, e2, hq, hce, hcv, vx_cls hW₁ hcl, st⟩
end Runs
section Rows
variable {p : Program} {l : Launch} {e : Env} {R : Room} {s : State} {m : MethodId} {args : Array Value} {below : List Frame} {meth : Method} {c : Code} {H : Heap} {locs : List Loc} {cells slots : Nat} {Q : State → Prop}
variable {mc ms : Nat} {free : Addr → Prop} {A0 A1 : Nat → Prop} {H0 : Heap} {a : Array Value} {pc : Nat} {ls : Array Slot} {st0 rest : List Value}
theorem vx_keep {st₀ t T' : State} {L : List Loc} (h0 : st₀.heap = H) (e1 : T'.heap = t.heap) (hS : va_S A0 H0 H locs) (hA : ∀ q, q < H.size → A1 q → A0 q) (hf : ∀ q, free q → A0 q) (hL : ∀ q ∈ L, free q.base) (hF : va_F A1 st₀ t) :
    H.size ≤ T'.heap.size ∧ (∀ q : Nat, q < H.size → ¬ A1 q → T'.heap[q]? = H[q]?) ∧ va_S A0 H0 T'.heap (locs ++ L) := by
  obtain ⟨hz, hk⟩ := hF
  rw [h0] at hz hk
  exact ⟨by rw [e1]; exact hz, fun q h1 h2 => by rw [e1]; exact hk q h1 h2,
    ⟨Nat.le_trans hS.1 (by rw [e1]; exact hz), fun q h1 h2 => by rw [e1, hk q (Nat.lt_of_lt_of_le h1 hS.1) (fun z => h2 (hA q (Nat.lt_of_lt_of_le h1 hS.1) z))]; exact hS.2.1 q h1 h2, fun q hq => by
      rcases List.mem_append.mp hq with h | h
      · exact hS.2.2 q h
      · exact hf _ (hL q h)⟩⟩
theorem vx_calli {S SX : Type} {post : Int32 → S → Prop} {px : SX → Prop} {B : S → State → Prop} {BX : String → SX → State → Prop} {AX : Nat → Prop} (hr : vx_Run p l e R s m args below meth c H locs cells slots mc ms (F0 m pc ls st0) rest (va_Qi post B A1 a) (vx_X px BX AX) free) (hS : va_S A0 H0 H locs) (hA : ∀ q, q < H.size → A1 q → A0 q) (hf : ∀ q, free q → A0 q) (hAX : ∀ q, q < H.size → AX q → A0 q)
    (kx : ∀ (E : String) (ce : Cell) (q9 : Addr) (u : SX) (t : State) (H1 : Heap) (locs1 : List Loc), t.heap = H1 → s.vm.Alike t.vm → px u → BX E u t → H.size ≤ H1.size → (∀ q : Nat, q < H.size → ¬ AX q → H1[q]? = H[q]?) → va_S A0 H0 H1 locs1 → H1[q9]? = some ce → ce.vm = .none → s.vm.findClass E = some ce.cls → vx_W p l e R s m args below meth c H1 locs1 (cells + mc) (slots + ms) Q (F0 m pc ls rest) q9)
    (kk : ∀ (r : Int32) (u : S) (t : State) (H1 : Heap) (locs1 : List Loc), t.heap = H1 → s.vm.Alike t.vm → post r u → B u t → H.size ≤ H1.size → (∀ q : Nat, q < H.size → ¬ A1 q → H1[q]? = H[q]?) → va_S A0 H0 H1 locs1 → W p l e R s m args below meth c H1 locs1 (cells + mc) (slots + ms) Q (F0 m (pc + 3) ls (.int r :: rest))) : W p l e R s m args below meth c H locs cells slots Q (F0 m pc ls st0) := by
  intro T hT X
  rcases hr T hT X with ⟨v, st₀, t, T', L, h0, X', hL, e1, e2, ⟨⟨r, u, hv, hp, hb⟩, hF⟩, st⟩ | ⟨q, st₀, t, T', L, E, ce, h0, X', hL, e1, e2, ⟨u, hp, hb, hF⟩, hce, hcv, hcl, st⟩
  · cases hv
    obtain ⟨k1, k2, k3⟩ := vx_keep h0 e1 hS hA hf hL hF
    obtain ⟨t2, a1, b1⟩ := kk r u t T'.heap (locs ++ L) e1.symm (by rw [← e2]; exact X'.warmed.alike) hp hb k1 k2 k3 T' rfl X'
    exact ⟨t2, st t2 a1, b1⟩
  · obtain ⟨k1, k2, k3⟩ := vx_keep h0 e1 hS hAX hf hL hF
    obtain ⟨t2, a1, b1⟩ := kx E ce q u t T'.heap (locs ++ L) e1.symm (by rw [← e2]; exact X'.warmed.alike) hp hb k1 k2 k3 (by rw [e1]; exact hce) hcv hcl T' rfl X'
    exact ⟨t2, st.trans a1, b1⟩
theorem vx_calll {S SX : Type} {post : Int64 → S → Prop} {px : SX → Prop} {B : S → State → Prop} {BX : String → SX → State → Prop} {AX : Nat → Prop} (hr : vx_Run p l e R s m args below meth c H locs cells slots mc ms (F0 m pc ls st0) rest (va_Ql post B A1 a) (vx_X px BX AX) free) (hS : va_S A0 H0 H locs) (hA : ∀ q, q < H.size → A1 q → A0 q) (hf : ∀ q, free q → A0 q) (hAX : ∀ q, q < H.size → AX q → A0 q)
    (kx : ∀ (E : String) (ce : Cell) (q9 : Addr) (u : SX) (t : State) (H1 : Heap) (locs1 : List Loc), t.heap = H1 → s.vm.Alike t.vm → px u → BX E u t → H.size ≤ H1.size → (∀ q : Nat, q < H.size → ¬ AX q → H1[q]? = H[q]?) → va_S A0 H0 H1 locs1 → H1[q9]? = some ce → ce.vm = .none → s.vm.findClass E = some ce.cls → vx_W p l e R s m args below meth c H1 locs1 (cells + mc) (slots + ms) Q (F0 m pc ls rest) q9)
    (kk : ∀ (r : Int64) (u : S) (t : State) (H1 : Heap) (locs1 : List Loc), t.heap = H1 → s.vm.Alike t.vm → post r u → B u t → H.size ≤ H1.size → (∀ q : Nat, q < H.size → ¬ A1 q → H1[q]? = H[q]?) → va_S A0 H0 H1 locs1 → W p l e R s m args below meth c H1 locs1 (cells + mc) (slots + ms) Q (F0 m (pc + 3) ls (.long r :: rest))) : W p l e R s m args below meth c H locs cells slots Q (F0 m pc ls st0) := by
  intro T hT X
  rcases hr T hT X with ⟨v, st₀, t, T', L, h0, X', hL, e1, e2, ⟨⟨r, u, hv, hp, hb⟩, hF⟩, st⟩ | ⟨q, st₀, t, T', L, E, ce, h0, X', hL, e1, e2, ⟨u, hp, hb, hF⟩, hce, hcv, hcl, st⟩
  · cases hv
    obtain ⟨k1, k2, k3⟩ := vx_keep h0 e1 hS hA hf hL hF
    obtain ⟨t2, a1, b1⟩ := kk r u t T'.heap (locs ++ L) e1.symm (by rw [← e2]; exact X'.warmed.alike) hp hb k1 k2 k3 T' rfl X'
    exact ⟨t2, st t2 a1, b1⟩
  · obtain ⟨k1, k2, k3⟩ := vx_keep h0 e1 hS hAX hf hL hF
    obtain ⟨t2, a1, b1⟩ := kx E ce q u t T'.heap (locs ++ L) e1.symm (by rw [← e2]; exact X'.warmed.alike) hp hb k1 k2 k3 (by rw [e1]; exact hce) hcv hcl T' rfl X'
    exact ⟨t2, st.trans a1, b1⟩
theorem vx_callf {S SX : Type} {post : UInt32 → S → Prop} {px : SX → Prop} {B : S → State → Prop} {BX : String → SX → State → Prop} {AX : Nat → Prop} (hr : vx_Run p l e R s m args below meth c H locs cells slots mc ms (F0 m pc ls st0) rest (va_Qf post B A1 a) (vx_X px BX AX) free) (hS : va_S A0 H0 H locs) (hA : ∀ q, q < H.size → A1 q → A0 q) (hf : ∀ q, free q → A0 q) (hAX : ∀ q, q < H.size → AX q → A0 q)
    (kx : ∀ (E : String) (ce : Cell) (q9 : Addr) (u : SX) (t : State) (H1 : Heap) (locs1 : List Loc), t.heap = H1 → s.vm.Alike t.vm → px u → BX E u t → H.size ≤ H1.size → (∀ q : Nat, q < H.size → ¬ AX q → H1[q]? = H[q]?) → va_S A0 H0 H1 locs1 → H1[q9]? = some ce → ce.vm = .none → s.vm.findClass E = some ce.cls → vx_W p l e R s m args below meth c H1 locs1 (cells + mc) (slots + ms) Q (F0 m pc ls rest) q9)
    (kk : ∀ (r : UInt32) (u : S) (t : State) (H1 : Heap) (locs1 : List Loc), t.heap = H1 → s.vm.Alike t.vm → post r u → B u t → H.size ≤ H1.size → (∀ q : Nat, q < H.size → ¬ A1 q → H1[q]? = H[q]?) → va_S A0 H0 H1 locs1 → W p l e R s m args below meth c H1 locs1 (cells + mc) (slots + ms) Q (F0 m (pc + 3) ls (.float r :: rest))) : W p l e R s m args below meth c H locs cells slots Q (F0 m pc ls st0) := by
  intro T hT X
  rcases hr T hT X with ⟨v, st₀, t, T', L, h0, X', hL, e1, e2, ⟨⟨r, u, hv, hp, hb⟩, hF⟩, st⟩ | ⟨q, st₀, t, T', L, E, ce, h0, X', hL, e1, e2, ⟨u, hp, hb, hF⟩, hce, hcv, hcl, st⟩
  · cases hv
    obtain ⟨k1, k2, k3⟩ := vx_keep h0 e1 hS hA hf hL hF
    obtain ⟨t2, a1, b1⟩ := kk r u t T'.heap (locs ++ L) e1.symm (by rw [← e2]; exact X'.warmed.alike) hp hb k1 k2 k3 T' rfl X'
    exact ⟨t2, st t2 a1, b1⟩
  · obtain ⟨k1, k2, k3⟩ := vx_keep h0 e1 hS hAX hf hL hF
    obtain ⟨t2, a1, b1⟩ := kx E ce q u t T'.heap (locs ++ L) e1.symm (by rw [← e2]; exact X'.warmed.alike) hp hb k1 k2 k3 (by rw [e1]; exact hce) hcv hcl T' rfl X'
    exact ⟨t2, st.trans a1, b1⟩
theorem vx_calld {S SX : Type} {post : UInt64 → S → Prop} {px : SX → Prop} {B : S → State → Prop} {BX : String → SX → State → Prop} {AX : Nat → Prop} (hr : vx_Run p l e R s m args below meth c H locs cells slots mc ms (F0 m pc ls st0) rest (va_Qd post B A1 a) (vx_X px BX AX) free) (hS : va_S A0 H0 H locs) (hA : ∀ q, q < H.size → A1 q → A0 q) (hf : ∀ q, free q → A0 q) (hAX : ∀ q, q < H.size → AX q → A0 q)
    (kx : ∀ (E : String) (ce : Cell) (q9 : Addr) (u : SX) (t : State) (H1 : Heap) (locs1 : List Loc), t.heap = H1 → s.vm.Alike t.vm → px u → BX E u t → H.size ≤ H1.size → (∀ q : Nat, q < H.size → ¬ AX q → H1[q]? = H[q]?) → va_S A0 H0 H1 locs1 → H1[q9]? = some ce → ce.vm = .none → s.vm.findClass E = some ce.cls → vx_W p l e R s m args below meth c H1 locs1 (cells + mc) (slots + ms) Q (F0 m pc ls rest) q9)
    (kk : ∀ (r : UInt64) (u : S) (t : State) (H1 : Heap) (locs1 : List Loc), t.heap = H1 → s.vm.Alike t.vm → post r u → B u t → H.size ≤ H1.size → (∀ q : Nat, q < H.size → ¬ A1 q → H1[q]? = H[q]?) → va_S A0 H0 H1 locs1 → W p l e R s m args below meth c H1 locs1 (cells + mc) (slots + ms) Q (F0 m (pc + 3) ls (.double r :: rest))) : W p l e R s m args below meth c H locs cells slots Q (F0 m pc ls st0) := by
  intro T hT X
  rcases hr T hT X with ⟨v, st₀, t, T', L, h0, X', hL, e1, e2, ⟨⟨r, u, hv, hp, hb⟩, hF⟩, st⟩ | ⟨q, st₀, t, T', L, E, ce, h0, X', hL, e1, e2, ⟨u, hp, hb, hF⟩, hce, hcv, hcl, st⟩
  · cases hv
    obtain ⟨k1, k2, k3⟩ := vx_keep h0 e1 hS hA hf hL hF
    obtain ⟨t2, a1, b1⟩ := kk r u t T'.heap (locs ++ L) e1.symm (by rw [← e2]; exact X'.warmed.alike) hp hb k1 k2 k3 T' rfl X'
    exact ⟨t2, st t2 a1, b1⟩
  · obtain ⟨k1, k2, k3⟩ := vx_keep h0 e1 hS hAX hf hL hF
    obtain ⟨t2, a1, b1⟩ := kx E ce q u t T'.heap (locs ++ L) e1.symm (by rw [← e2]; exact X'.warmed.alike) hp hb k1 k2 k3 (by rw [e1]; exact hce) hcv hcl T' rfl X'
    exact ⟨t2, st.trans a1, b1⟩
theorem vx_callv {S SX : Type} {post : S → Prop} {px : SX → Prop} {B : S → State → Prop} {BX : String → SX → State → Prop} {AX : Nat → Prop} (hr : vx_Run p l e R s m args below meth c H locs cells slots mc ms (F0 m pc ls st0) rest (va_Qv post B A1 a) (vx_X px BX AX) free) (hS : va_S A0 H0 H locs) (hA : ∀ q, q < H.size → A1 q → A0 q) (hf : ∀ q, free q → A0 q) (hAX : ∀ q, q < H.size → AX q → A0 q)
    (kx : ∀ (E : String) (ce : Cell) (q9 : Addr) (u : SX) (t : State) (H1 : Heap) (locs1 : List Loc), t.heap = H1 → s.vm.Alike t.vm → px u → BX E u t → H.size ≤ H1.size → (∀ q : Nat, q < H.size → ¬ AX q → H1[q]? = H[q]?) → va_S A0 H0 H1 locs1 → H1[q9]? = some ce → ce.vm = .none → s.vm.findClass E = some ce.cls → vx_W p l e R s m args below meth c H1 locs1 (cells + mc) (slots + ms) Q (F0 m pc ls rest) q9)
    (kk : ∀ (u : S) (t : State) (H1 : Heap) (locs1 : List Loc), t.heap = H1 → s.vm.Alike t.vm → post u → B u t → H.size ≤ H1.size → (∀ q : Nat, q < H.size → ¬ A1 q → H1[q]? = H[q]?) → va_S A0 H0 H1 locs1 → W p l e R s m args below meth c H1 locs1 (cells + mc) (slots + ms) Q (F0 m (pc + 3) ls (rest))) : W p l e R s m args below meth c H locs cells slots Q (F0 m pc ls st0) := by
  intro T hT X
  rcases hr T hT X with ⟨v, st₀, t, T', L, h0, X', hL, e1, e2, ⟨⟨u, hv, hp, hb⟩, hF⟩, st⟩ | ⟨q, st₀, t, T', L, E, ce, h0, X', hL, e1, e2, ⟨u, hp, hb, hF⟩, hce, hcv, hcl, st⟩
  · cases hv
    obtain ⟨k1, k2, k3⟩ := vx_keep h0 e1 hS hA hf hL hF
    obtain ⟨t2, a1, b1⟩ := kk u t T'.heap (locs ++ L) e1.symm (by rw [← e2]; exact X'.warmed.alike) hp hb k1 k2 k3 T' rfl X'
    exact ⟨t2, st t2 a1, b1⟩
  · obtain ⟨k1, k2, k3⟩ := vx_keep h0 e1 hS hAX hf hL hF
    obtain ⟨t2, a1, b1⟩ := kx E ce q u t T'.heap (locs ++ L) e1.symm (by rw [← e2]; exact X'.warmed.alike) hp hb k1 k2 k3 (by rw [e1]; exact hce) hcv hcl T' rfl X'
    exact ⟨t2, st.trans a1, b1⟩
/-- caught by the row x of this method's table; the rows ahead don't take it -/
theorem vx_catch {own name : String} {E : String} {ce : Cell} {q : Addr} (hown : s.vm.findClass own = some m.cls) (pre : List ExceptionTableEntry) (x : ExceptionTableEntry) (suf : List ExceptionTableEntry) (hsplit : c.exceptionTable.toList = pre ++ x :: suf)
    (hpass : ∀ z ∈ pre, covers z pc = false ∨ (z.catchType ≠ 0 ∧ ∃ nm : String, (Cond.classLink own z.catchType nm).before args s = true ∧ va_Nc E nm s)) (hx : covers x pc = true) (h0 : x.catchType ≠ 0)
    (hlink : (Cond.classLink own x.catchType name).before args s = true) (hcast : (Cond.castable E name).before args s = true) (hcell : H[q]? = some ce) (hv : ce.vm = .none) (hcl : s.vm.findClass E = some ce.cls)
    (kk : W p l e R s m args below meth c H locs cells slots Q (F0 m x.handlerPc ls [.ref q])) : vx_W p l e R s m args below meth c H locs cells slots Q (F0 m pc ls rest) q := by
  intro T hT X
  have hpl : e.platform.magicAccessors = ({} : Platform).magicAccessors := by rw [X.admits.platform]
  obtain ⟨c3, c4, hc3, hc4, hasg⟩ := Cond.castable_spec hcast
  cases Option.some.inj (hc3.symm.trans hcl)
  obtain ⟨c5, hc5, hcl5⟩ := Cond.classLink_spec hown hlink e.platform hpl
  cases Option.some.inj (hc4.symm.trans hc5)
  obtain ⟨vm', X', st⟩ := X.thenCaughtThrough q (g := F0 m pc ls rest) rfl (Steps.refl _) (by rw [hT]; exact hcell) (by rw [hv]; rfl) (by obtain ⟨k9, h9, -⟩ := Vm.findClass_spec hcl; exact ⟨k9, h9⟩) pre x suf hsplit
    (fun z hz => by
      rcases hpass z hz with h | ⟨hz0, nm, hl1, hn1⟩
      · exact Or.inl h
      · obtain ⟨c6, hc6, hcl6⟩ := Cond.classLink_spec hown hl1 e.platform hpl
        obtain ⟨a8, b8, h1, h2, h3⟩ := hn1
        cases Option.some.inj (h1.symm.trans hcl)
        cases Option.some.inj (h2.symm.trans hc6)
        exact Or.inr ⟨hz0, _, hcl6, h3⟩) hx (Or.inr ⟨h0, c4, hcl5, hasg⟩)
  obtain ⟨t, a1, b1⟩ := kk (T.setVm vm') hT X'
  exact ⟨t, st.trans a1, b1⟩
end Rows
section Ends
variable {p : Program} {l : Launch} {e : Env} {R : Room} {s : State} {m : MethodId} {args : Array Value} {below : List Frame} {meth : Method} {c : Code} {H : Heap} {locs : List Loc} {cells slots : Nat} {Q : State → Prop}
variable {mc ms : Nat} {free : Addr → Prop} {A0 A1 : Nat → Prop} {H0 : Heap} {a : Array Value} {ls : Array Slot} {st0 rest : List Value}
variable {Qc : Array Value → State → Outcome → State → Prop} {XC : String → State → State → Prop}
/-- what a body that may throw owes at its end -/
def vx_MQ (below : List Frame) (Qc : Array Value → State → Outcome → State → Prop) (XC : String → State → State → Prop) (a : Array Value) (s : State) (mc ms : Nat) (free : Addr → Prop) : State → Prop := fun t =>
  ∃ o, t.status = .running ∧ Ended t below o ∧ vx_Q Qc XC mc ms free a s o t
theorem vx_ret {g : JFrame} {mc ms : Nat} (k : W p l e R s m args below meth c H locs cells slots (MQ below Qc args s mc ms free) g) : W p l e R s m args below meth c H locs cells slots (vx_MQ below Qc XC args s mc ms free) g := by
  intro T hT X
  obtain ⟨t, a1, o, b1, b2, b3, b4⟩ := k T hT X
  exact ⟨t, a1, o, b1, b2, Or.inl ⟨b3, b4⟩⟩
/-- not caught here: it goes on to the caller -/
theorem vx_widen {g : JFrame} {q : Addr} {k n : Nat} (h1 : cells ≤ k) (h2 : slots ≤ n) (kk : vx_W p l e R s m args below meth c H locs k n Q g q) : vx_W p l e R s m args below meth c H locs cells slots Q g q := fun T hT X => kk T hT (stand_widen X h1 h2)
theorem vx_out {pc : Nat} {E : String} {ce : Cell} {q : Addr} {mc ms : Nat} (hout : ∀ x ∈ c.exceptionTable.toList, covers x pc = false) (hlocks : meth.locks = false) (hcell : H[q]? = some ce) (hv : ce.vm = .none) (hcl : s.vm.findClass E = some ce.cls)
    (hx : ∀ t : State, t.heap = H → s.vm.Alike t.vm → XC E s t) (hf : ∀ z ∈ locs, free z.base) (hc : cells ≤ mc) (hs : slots ≤ ms) :
    vx_W p l e R s m args below meth c H locs cells slots (vx_MQ below Qc XC args s mc ms free) (F0 m pc ls rest) q := by
  intro T hT X
  obtain ⟨st1, hrun, hend, hW, hsm⟩ := X.leaveThrown q (g := F0 m pc ls rest) rfl rfl rfl hout hlocks
  have hcell9 : (T.setFrames (.throwing q :: below)).heap[q]? = some ce := by
    show T.heap[q]? = some ce
    rw [hT]; exact hcell
  exact ⟨_, st1, .threw q, hrun, hend, Or.inr ⟨q, rfl, E, ce, locs, hx _ hT hW.alike, hcell9, hv, hcl, hW, hsm.mono hc hs, hf⟩⟩
theorem vx_frame {U : State} {k n : Nat} (h : s.sameButNew ({ U with vm := s.vm } : State) locs k n) : s.heap.size ≤ U.heap.size ∧ ∀ q : Nat, q < s.heap.size → (∀ z ∈ locs, z.base ≠ q) → U.heap[q]? = s.heap[q]? := by
  obtain ⟨-, h2, -, -, -, h6⟩ := h
  refine ⟨h2, fun q hq hz => ?_⟩
  obtain ⟨c9, e1, e2, e3, e4⟩ := h6 q _ (Array.getElem?_eq_getElem hq)
  have hs : c9.slots = (s.heap[q]).slots := Array.ext_getElem? fun i => e4 i fun hm => hz _ hm rfl
  have h9 : c9 = s.heap[q] := by
    rw [hs] at e2
    exact e2
  have e5 : U.heap[q]? = some c9 := e1
  rw [e5, h9, Array.getElem?_eq_getElem hq]
/-- the words of a throw but the four that speak of the heap -/
def vx_no (w : Cond) : Bool := decide (w ≠ .isRef (.static Bundle.tN "UNASSIGNED_STACK" Bundle.steD)) && decide (w ≠ .isRef (.static Bundle.tN "SUPPRESSED_SENTINEL" Bundle.listD)) && decide (w ≠ .laysStatic Bundle.tN "UNASSIGNED_STACK" Bundle.steD) && decide (w ≠ .laysStatic Bundle.tN "SUPPRESSED_SENTINEL" Bundle.listD)
def vx_at0 (own : String) (ic : Nat) (X : String) (names : List String) : List Cond := (Bundle.ownAtoms0 own ic X names).filter vx_no
def vx_atS (own : String) (ic : Nat) (X : String) (names : List String) : List Cond := (Bundle.ownAtoms own ic X names).filter vx_no
/-- a word that the tables alone decide, or a good one -/
def vx_ot (w : Cond) : Bool := w.onTables || goodWord w
theorem vx_ot_at {args a' : Array Value} {s U : State} {w : Cond} (hW : s.WarmedH U.vm) (hvm : s.vm = U.vm) (hg : vx_ot w = true) (h : w.before args s = true) : w.before a' U = true := by
  simp only [vx_ot, Bool.or_eq_true] at hg
  rcases hg with hg | hg
  · exact va_tabs hg hvm h
  · exact word_at hW (good_of_word hg) h
/-- a list's words: the good ones out of the method's own list, the others by premises of their own -/
theorem vx_hat {args : Array Value} {s : State} {L B : List Cond} (h1 : ∀ w ∈ L.filter goodWord, w.before args s = true) (h2 : ∀ w ∈ L.filter (fun w => !goodWord w), w ∈ B) (h3 : ∀ w ∈ B, w.before args s = true) : ∀ w ∈ L, w.before args s = true := by
  intro w hw
  by_cases g : goodWord w = true
  · exact h1 w (List.mem_filter.mpr ⟨hw, g⟩)
  · refine h3 w (h2 w (List.mem_filter.mpr ⟨hw, ?_⟩))
    show (!goodWord w) = true
    cases hgw : goodWord w
    · rfl
    · exact absurd hgw g
theorem vx_c {args : Array Value} {s : State} {w : Cond} {B : List Cond} (h : w.before args s = true) (t : ∀ w ∈ B, w.before args s = true) : ∀ w' ∈ w :: B, w'.before args s = true := fun w' h' => (List.mem_cons.mp h').elim (fun e => by rw [e]; exact h) (t w')
theorem vx_n {args : Array Value} {s : State} : ∀ w ∈ ([] : List Cond), w.before args s = true := fun _ h => nomatch h
theorem vx_own {args : Array Value} {s : State} {L : List Cond} (h1 : ∀ w ∈ L.filter vx_no, w.before args s = true)
    (hU : (Cond.isRef (.static Bundle.tN "UNASSIGNED_STACK" Bundle.steD)).before args s = true) (hN : (Cond.isRef (.static Bundle.tN "SUPPRESSED_SENTINEL" Bundle.listD)).before args s = true)
    (lU : (Cond.laysStatic Bundle.tN "UNASSIGNED_STACK" Bundle.steD).before args s = true) (lN : (Cond.laysStatic Bundle.tN "SUPPRESSED_SENTINEL" Bundle.listD).before args s = true) : ∀ w ∈ L, w.before args s = true := by
  intro w hw
  by_cases e1 : w = .isRef (.static Bundle.tN "UNASSIGNED_STACK" Bundle.steD)
  · rw [e1]; exact hU
  · by_cases e2 : w = .isRef (.static Bundle.tN "SUPPRESSED_SENTINEL" Bundle.listD)
    · rw [e2]; exact hN
    · by_cases e3 : w = .laysStatic Bundle.tN "UNASSIGNED_STACK" Bundle.steD
      · rw [e3]; exact lU
      · by_cases e4 : w = .laysStatic Bundle.tN "SUPPRESSED_SENTINEL" Bundle.listD
        · rw [e4]; exact lN
        · exact h1 w (List.mem_filter.mpr ⟨hw, by unfold vx_no; rw [decide_eq_true e1, decide_eq_true e2, decide_eq_true e3, decide_eq_true e4]; rfl⟩)
/-- where a static field lies, its class's statics cell in H -/
def vx_L (C n d : String) (A : Nat → Prop) (U : State) (H : Heap) : Prop := ∃ (c : ClassId) (k : Class) (i : Nat) (f : Field) (a : Nat) (cell : Cell), U.vm.findClass C = some c ∧ U.fieldFound? C n d = some (c, k, i, f) ∧ f.isStatic = true ∧ k.statics = some a ∧ H[a]? = some cell ∧ cell.vm.isStatics = true ∧ cell.cls = c ∧ f.slot < cell.slots.size ∧ k.staticTypes[f.slot]? = some f.type ∧ ¬ A a
theorem vx_L.moved {C n d : String} {A : Nat → Prop} {u U : State} {H : Heap} (hvm : u.vm.Alike U.vm) (h : vx_L C n d A u H) : vx_L C n d A U H := by
  obtain ⟨c, k, i, f, a, cell, h1, h2, h3, h4, h5, h6, h7, h8, h9, h10⟩ := h
  obtain ⟨k', hi', he⟩ := State.fieldFound?_setVm hvm h2
  exact ⟨c, k', i, f, a, cell, by rw [hvm.findClass]; exact h1, hi', h3, by rw [he]; exact h4, h5, h6, h7, h8, by rw [he]; exact h9, h10⟩
theorem vx_L.kept {C n d : String} {A : Nat → Prop} {U : State} {H H1 : Heap} (h : vx_L C n d A U H) (hq : ∀ a : Nat, a < H.size → ¬ A a → H1[a]? = H[a]?) : vx_L C n d A U H1 := by
  obtain ⟨c, k, i, f, a, cell, h1, h2, h3, h4, h5, h6, h7, h8, h9, h10⟩ := h
  exact ⟨c, k, i, f, a, cell, h1, h2, h3, h4, by rw [hq a (Array.getElem?_eq_some_iff.mp h5).1 h10]; exact h5, h6, h7, h8, h9, h10⟩
theorem vx_L.narrow {C n d : String} {A B : Nat → Prop} {U : State} {H : Heap} (h : vx_L C n d A U H) (hAB : ∀ q, B q → A q) : vx_L C n d B U H := by
  obtain ⟨c, k, i, f, a, cell, h1, h2, h3, h4, h5, h6, h7, h8, h9, h10⟩ := h
  exact ⟨c, k, i, f, a, cell, h1, h2, h3, h4, h5, h6, h7, h8, h9, fun z => h10 (hAB _ z)⟩
theorem vx_L.word {C n d : String} {A : Nat → Prop} {s : State} {args : Array Value} (h : vx_L C n d A s s.heap) : (Cond.laysStatic C n d).before args s = true := by
  obtain ⟨c, k, i, f, a, cell, h1, h2, h3, h4, h5, h6, h7, h8, h9, -⟩ := h
  show (Cond.laysStatic C n d).holds args s none s [] = true
  exact Cond.laysStatic_of h1 h2 h3 h4 h5 h6 h7 h8 h9
/-- .. and what it holds: null or some reference -/
def vx_Zq (C n d : String) (A : Nat → Prop) (U : State) (H : Heap) : Prop := va_Zq C n d A U H ∧ vx_L C n d A U H
theorem vx_Zq.moved {C n d : String} {A : Nat → Prop} {u U : State} {H : Heap} (hvm : u.vm.Alike U.vm) (h : vx_Zq C n d A u H) : vx_Zq C n d A U H := ⟨va_Zq.moved hvm h.1, vx_L.moved hvm h.2⟩
theorem vx_Zq.kept {C n d : String} {A : Nat → Prop} {U : State} {H H1 : Heap} (h : vx_Zq C n d A U H) (hq : ∀ a : Nat, a < H.size → ¬ A a → H1[a]? = H[a]?) : vx_Zq C n d A U H1 := ⟨va_Zq.kept h.1 hq, vx_L.kept h.2 hq⟩
theorem vx_Zq.narrow {C n d : String} {A B : Nat → Prop} {U : State} {H : Heap} (h : vx_Zq C n d A U H) (hAB : ∀ q, B q → A q) : vx_Zq C n d B U H := ⟨va_Zq.narrow h.1 hAB, vx_L.narrow h.2 hAB⟩
theorem vx_Zqof {args : Array Value} {s : State} {C n d : String} {A : Nat → Prop} (hl : (Cond.laysStatic C n d).before args s = true) (hini : (Cond.initialized C).before args s = true) (h : (Cond.isRef (.static C n d)).before args s = true) (hA : ∀ a : Nat, a < s.heap.size → ¬ A a) : vx_Zq C n d A s s.heap := by
  refine ⟨va_Zqof hl hini h hA, ?_⟩
  obtain ⟨c, k, i, f, a, cell, h1, h2, h3, h4, h5, h6, h7, h8, h9⟩ := Cond.laysStatic_spec hl
  exact ⟨c, k, i, f, a, cell, h1, h2, h3, h4, h5, h6, h7, h8, h9, hA a (Array.getElem?_eq_some_iff.mp h5).1⟩
theorem vx_isRef {C n d : String} {v : Value} {A : Nat → Prop} {s : State} {args : Array Value} (h : va_Z C n d v A s s.heap) (hv : v.isRef = true) : (Cond.isRef (.static C n d)).before args s = true := by
  obtain ⟨cf, kf, fi, f, a, cell, h1, h2, h3, h4, h5, h6, h7, -⟩ := h
  have he : (Term.static C n d).eval args s none [] s = some v := by
    simp [Term.eval, State.fieldNamed?, h1, h2, h4, h5, h6, h7]
  simp only [Cond.before, Cond.holds, Cond.value, he]
  cases v <;> simp_all [Value.isRef]
theorem vx_isRefq {C n d : String} {A : Nat → Prop} {s : State} {args : Array Value} (h : va_Zq C n d A s s.heap) : (Cond.isRef (.static C n d)).before args s = true := by
  rcases h with h | ⟨t, h⟩
  · exact vx_isRef h rfl
  · exact vx_isRef h rfl
/-- the same frame, seen from here: as if the method were called anew in this heap -/
theorem vx_rebase {T : State} (X : Stand p l e R s m args below meth c T locs cells slots) {R' : Room} (hf : R'.frames ≤ R.frames) (hl : R'.locals ≤ R.locals) (hc : cells + R'.cells ≤ R.cells) (hs : slots + R'.slots ≤ R.slots) :
    Stand p l e R' ((T.setVm s.vm).setFrames (.invoking m args :: below)) m args below meth c T [] 0 0 := by
  have htop : (T.setVm s.vm).topJava?.isSome := X.here.top
  have hF : ((T.setVm s.vm).setFrames (.invoking m args :: below)).frames = .invoking m args :: below := State.frames_setFrames _ (State.cur_lt_of_top htop)
  obtain ⟨g₀, hg0⟩ := Option.isSome_iff_exists.mp htop
  obtain ⟨r, hr⟩ := State.topJava?_eq_some.mp hg0
  have hl9 : e.platform.stackLimits (T.setVm s.vm).me = e.platform.stackLimits s.me := X.limits
  have hb9 : (T.setVm s.vm).me.stackBytes = s.me.stackBytes := X.bytes
  refine ⟨X.admits, X.cas, X.clock, hF, ?_, X.hears, X.method, X.code, X.here, X.tail, X.warmed, ?_, ?_, ?_⟩
  · have h := X.room
    have hU : ((T.setVm s.vm).setFrames (.invoking m args :: below)).localsInUse = s.localsInUse := by
      rw [State.localsInUse_invoking hF (meth := meth) (c := c) X.method X.code, State.localsInUse_invoking X.frames X.method X.code]
    simp only [State.hasRoom, Bool.and_eq_true, decide_eq_true_eq] at h ⊢
    obtain ⟨⟨⟨⟨h1, h2, h3, h4, h5, h6⟩, h7⟩, h8⟩, h9⟩ := h
    rw [X.frames, List.length_cons] at h2 h3
    have q1 := X.heapSize
    have q2 := X.used
    simp only [hF, hU, List.length_cons, State.stackLimits_setFrames, State.stackBytes_setFrames, hl9, hb9]
    refine ⟨⟨⟨⟨by omega, by omega, by omega, by omega, by omega, h6⟩, ?_⟩, ?_⟩, X.book⟩
    · show T.heap.size + R'.cells ≤ e.platform.maxCells
      omega
    · show T.slotsUsed + R'.slots ≤ e.platform.maxSlots
      omega
  · rw [State.stackLimits_setFrames]; rfl
  · rw [State.stackBytes_setFrames]; rfl
  · refine ⟨?_, Nat.le_refl _, Nat.le_refl _, ?_, ?_, fun a c9 h9 => ⟨c9, h9, rfl, rfl, fun _ _ => rfl⟩⟩
    · obtain ⟨t, ht, -⟩ := State.frames_cons hr
      show T.setVm s.vm = { ((T.setVm s.vm).setFrames (.invoking m args :: below)).setFrames (T.setVm s.vm).frames with heap := T.heap, slotsUsed := T.slotsUsed }
      rw [State.setFrames_setFrames, State.setFrames_self ht]
      rfl
    · show T.slotsUsed = T.slotsUsed + ((T.heap.toList.drop T.heap.size).map (·.slots.size)).sum
      rw [List.drop_eq_nil_of_le (Nat.le_of_eq Array.length_toList)]
      rfl
    · show ((T.heap.toList.drop T.heap.size).map (·.slots.size)).sum ≤ 0
      rw [List.drop_eq_nil_of_le (Nat.le_of_eq Array.length_toList)]
      exact Nat.le_refl _
/-- 'throw new E()': new; dup; invokespecial; athrow -/
theorem vx_throw0 {cc : ByteArray} {pc : Nat} (hexec : p.tables.exec = Jvm.exec) (hb : c.code = cc) (hl : l.stackTraces = false) {own cls : String} {names : List String} {ik ic mc ms : Nat} {A : Nat → Prop}
    (hown : s.vm.findClass own = some m.cls) (hcls : Bundle.fit cls = true) (hnames : ∀ n ∈ names, Bundle.fit n = true)
    (hk : (Cond.classLink own ik cls).before args s = true) (hini : (Cond.initialized cls).before args s = true) (hat : ∀ w ∈ vx_at0 own ic cls names, w.before args s = true)
    (hgood : ∀ w ∈ Cond.classLink own ik cls :: Cond.initialized cls :: vx_at0 own ic cls names, vx_ot w = true)
    (hU : vx_Zq Bundle.tN "UNASSIGNED_STACK" Bundle.steD A s s.heap) (hN : vx_Zq Bundle.tN "SUPPRESSED_SENTINEL" Bundle.listD A s s.heap) (hS : va_S A s.heap H locs) (hsize : ls.size = c.maxLocals)
    (d0 : decode cc pc = .ok (.new ik, 3)) (d3 : decode cc (pc + 3) = .ok (.dup, 1)) (d4 : decode cc (pc + 4) = .ok (.invokespecial ic, 3)) (d7 : decode cc (pc + 7) = .ok (.athrow, 1))
    (hout : ∀ x ∈ c.exceptionTable.toList, covers x (pc + 7) = false)
    (hRframes : names.length + 3 < R.frames) (hRlocals : (rest.map fun v => v.category).sum + (13 * (names.length + 1) + 42) ≤ R.locals) (hRcells : cells + 1 ≤ R.cells) (hRslots : slots + 6 ≤ R.slots) (hlocks : meth.locks = false)
    (hx : ∀ t : State, s.vm.Alike t.vm → H.size ≤ t.heap.size → (∀ q : Nat, q < H.size → t.heap[q]? = H[q]?) → XC cls s t)
    (hf : ∀ z ∈ locs, free z.base) (hc : cells + 1 ≤ mc) (hs : slots + 6 ≤ ms) :
    W p l e R s m args below meth c H locs cells slots (vx_MQ below Qc XC args s mc ms free) (F0 m pc ls rest) := by
  intro T hT X
  have htr : e.platform.stackTraces = false := (show e.platform.stackTraces = l.stackTraces by rw [X.admits.platform]).trans hl
  have Y := vx_rebase X (R' := { frames := R.frames, locals := R.locals, cells := 1, slots := 6 }) (Nat.le_refl _) (Nat.le_refl _) hRcells hRslots
  obtain ⟨s', hA⟩ : ∃ z, z = (T.setVm s.vm).setFrames (.invoking m args :: below) := ⟨_, rfl⟩
  rw [← hA] at Y
  have hvm : s'.vm = s.vm := by rw [hA]; rfl
  have hhp : s'.heap = H := by rw [hA]; exact hT
  have hW0 : s.WarmedH s'.vm := by rw [hvm]; exact State.WarmedH.refl s
  have hat' : ∀ w ∈ vx_at0 own ic cls names, w.before args s' = true := fun w hw => vx_ot_at hW0 hvm.symm (hgood w (List.mem_cons_of_mem _ (List.mem_cons_of_mem _ hw))) (hat w hw)
  have hk' : (Cond.classLink own ik cls).before args s' = true := vx_ot_at hW0 hvm.symm (hgood _ List.mem_cons_self) hk
  have hini' : (Cond.initialized cls).before args s' = true := vx_ot_at hW0 hvm.symm (hgood _ (List.mem_cons_of_mem _ List.mem_cons_self)) hini
  have hU' : vx_Zq Bundle.tN "UNASSIGNED_STACK" Bundle.steD A s' s'.heap := by rw [hhp]; exact vx_Zq.moved hW0.alike (hU.kept hS.2.1)
  have hN' : vx_Zq Bundle.tN "SUPPRESSED_SENTINEL" Bundle.listD A s' s'.heap := by rw [hhp]; exact vx_Zq.moved hW0.alike (hN.kept hS.2.1)
  have h : ∀ w ∈ Bundle.ownAtoms0 own ic cls names, w.before args s' = true := vx_own hat' (vx_isRefq hU'.1) (vx_isRefq hN'.1) hU'.2.word hN'.2.word
  have hown' : s'.vm.findClass own = some m.cls := by rw [hvm]; exact hown
  have hins : (Cond.instantiable cls 6).before args s' = true := h _ (by simp [Bundle.ownAtoms0])
  obtain ⟨vm₁, cX, kX, hfX, hkX, -, -, X₁, st1⟩ := Y.newCold hexec (own := own) (C := cls) (index := ik) (n := 6) hown' hk' hins hini'
    (g := F0 m pc ls rest) rfl (by rw [hb]; exact d0) (Nat.le_refl _) (Nat.le_refl _)
  generalize hT1 : (T.setVm vm₁).pushCell { cls := cX, slots := kX.instanceTypes.map defaultValue, vm := .none } = T1 at X₁ st1
  have hcat : (Value.ref T.heap.size).category = 1 := rfl
  have hcellA : T1.heap[T.heap.size]? = some (freshCell cX kX) := by rw [← hT1]; exact State.heap_pushCell_size _ _
  have d3' : decode c.code (pc + 3) = .ok (.dup, 1) := by rw [hb]; exact d3
  obtain ⟨U, hsteps, hrun, hend, hW, hsame, ce, hce, hO⟩ := X₁.ctorThrow0 hexec htr (own := own) (cls := cls) (names := names) (ic := ic) hown' hcls hnames h (fun x hx => nomatch hx) hfX hkX hcellA (by rw [hhp, hT]; exact Nat.le_refl _)
    (g := { method := m, pc := pc + 4, locals := ls, stack := .ref T.heap.size :: .ref T.heap.size :: rest, locked := none }) rfl hsize rfl rfl (rest := rest) rfl
    (by rw [hb]; exact d4) (by rw [hb]; exact d7) hout hRframes (by simp only [List.map_cons, List.sum_cons, hcat]; omega) hlocks
  obtain ⟨f1, f2⟩ := vx_frame hsame
  rw [hhp] at f1 f2
  have hWs : s.WarmedH U.vm := State.WarmedH.trans hW0 hW
  have hcl : s.vm.findClass cls = some ce.cls := by
    have h9 := hO.cls
    rw [hvm] at h9
    exact h9
  have hall : s.sameButNew ({ U with vm := s.vm } : State) locs mc ms := by
    subst hA
    obtain ⟨e1, e2⟩ := hsame
    rw [State.setFrames_setFrames] at e1
    have h2 : (T.setVm s.vm).sameButNew ({ U with vm := s.vm } : State) [] (0 + 1) (0 + 6) := ⟨e1, e2⟩
    have h3 := X.same.trans h2
    rw [List.append_nil] at h3
    exact h3.mono hc hs
  refine ⟨U, ?_, .threw T.heap.size, hrun, hend, Or.inr ⟨T.heap.size, rfl, cls, ce, locs, hx U hWs.alike f1 (fun q hq => f2 q hq (fun z hz => nomatch hz)), hce, hO.vm, hcl, hWs, hall, hf⟩⟩
  refine st1 _ ?_
  show Steps p.tables e below (T1.setTop { method := m, pc := pc + 3, locals := ls, stack := .ref T.heap.size :: rest, locked := none }) _
  jvm_step X₁.here [X₁.here.top, hexec, d3', Value.category]
  exact hsteps
/-- 'throw new E("text")': new; dup; ldc; invokespecial; athrow -/
theorem vx_throwS {cc : ByteArray} {pc : Nat} (hexec : p.tables.exec = Jvm.exec) (hb : c.code = cc) (hl : l.stackTraces = false) {own cls text : String} {names : List String} {ik is ic mc ms sa : Nat} {A : Nat → Prop}
    (hown : s.vm.findClass own = some m.cls) (hcls : Bundle.fit cls = true) (hnames : ∀ n ∈ names, Bundle.fit n = true)
    (hk : (Cond.classLink own ik cls).before args s = true) (hini : (Cond.initialized cls).before args s = true) (hstr : vk_R own is text sa s) (hat : ∀ w ∈ vx_atS own ic cls names, w.before args s = true)
    (hgood : ∀ w ∈ Cond.classLink own ik cls :: Cond.initialized cls :: vx_atS own ic cls names, vx_ot w = true)
    (hU : vx_Zq Bundle.tN "UNASSIGNED_STACK" Bundle.steD A s s.heap) (hN : vx_Zq Bundle.tN "SUPPRESSED_SENTINEL" Bundle.listD A s s.heap) (hS : va_S A s.heap H locs) (hsize : ls.size = c.maxLocals)
    (d0 : decode cc pc = .ok (.new ik, 3)) (d3 : decode cc (pc + 3) = .ok (.dup, 1)) (d4 : decode cc (pc + 4) = .ok (.ldc is, 2)) (d6 : decode cc (pc + 6) = .ok (.invokespecial ic, 3)) (d9 : decode cc (pc + 9) = .ok (.athrow, 1))
    (hout : ∀ x ∈ c.exceptionTable.toList, covers x (pc + 9) = false)
    (hRframes : names.length + 3 < R.frames) (hRlocals : (rest.map fun v => v.category).sum + (13 * (names.length + 1) + 43) ≤ R.locals) (hRcells : cells + 1 ≤ R.cells) (hRslots : slots + 6 ≤ R.slots) (hlocks : meth.locks = false)
    (hx : ∀ t : State, s.vm.Alike t.vm → H.size ≤ t.heap.size → (∀ q : Nat, q < H.size → t.heap[q]? = H[q]?) → XC cls s t)
    (hf : ∀ z ∈ locs, free z.base) (hc : cells + 1 ≤ mc) (hs : slots + 6 ≤ ms) :
    W p l e R s m args below meth c H locs cells slots (vx_MQ below Qc XC args s mc ms free) (F0 m pc ls rest) := by
  intro T hT X
  have htr : e.platform.stackTraces = false := (show e.platform.stackTraces = l.stackTraces by rw [X.admits.platform]).trans hl
  have Y := vx_rebase X (R' := { frames := R.frames, locals := R.locals, cells := 1, slots := 6 }) (Nat.le_refl _) (Nat.le_refl _) hRcells hRslots
  obtain ⟨s', hA⟩ : ∃ z, z = (T.setVm s.vm).setFrames (.invoking m args :: below) := ⟨_, rfl⟩
  rw [← hA] at Y
  have hvm : s'.vm = s.vm := by rw [hA]; rfl
  have hhp : s'.heap = H := by rw [hA]; exact hT
  have hW0 : s.WarmedH s'.vm := by rw [hvm]; exact State.WarmedH.refl s
  have hat' : ∀ w ∈ vx_atS own ic cls names, w.before args s' = true := fun w hw => vx_ot_at hW0 hvm.symm (hgood w (List.mem_cons_of_mem _ (List.mem_cons_of_mem _ hw))) (hat w hw)
  have hk' : (Cond.classLink own ik cls).before args s' = true := vx_ot_at hW0 hvm.symm (hgood _ List.mem_cons_self) hk
  have hini' : (Cond.initialized cls).before args s' = true := vx_ot_at hW0 hvm.symm (hgood _ (List.mem_cons_of_mem _ List.mem_cons_self)) hini
  have hU' : vx_Zq Bundle.tN "UNASSIGNED_STACK" Bundle.steD A s' s'.heap := by rw [hhp]; exact vx_Zq.moved hW0.alike (hU.kept hS.2.1)
  have hN' : vx_Zq Bundle.tN "SUPPRESSED_SENTINEL" Bundle.listD A s' s'.heap := by rw [hhp]; exact vx_Zq.moved hW0.alike (hN.kept hS.2.1)
  have h : ∀ w ∈ Bundle.ownAtoms own ic cls names, w.before args s' = true := vx_own hat' (vx_isRefq hU'.1) (vx_isRefq hN'.1) hU'.2.word hN'.2.word
  have hown' : s'.vm.findClass own = some m.cls := by rw [hvm]; exact hown
  have hins : (Cond.instantiable cls 6).before args s' = true := h _ (by simp [Bundle.ownAtoms])
  obtain ⟨vm₁, cX, kX, hfX, hkX, -, -, X₁, st1⟩ := Y.newCold hexec (own := own) (C := cls) (index := ik) (n := 6) hown' hk' hins hini'
    (g := F0 m pc ls rest) rfl (by rw [hb]; exact d0) (Nat.le_refl _) (Nat.le_refl _)
  generalize hT1 : (T.setVm vm₁).pushCell { cls := cX, slots := kX.instanceTypes.map defaultValue, vm := .none } = T1 at X₁ st1
  have hcat : (Value.ref T.heap.size).category = 1 := rfl
  have hcellA : T1.heap[T.heap.size]? = some (freshCell cX kX) := by rw [← hT1]; exact State.heap_pushCell_size _ _
  have d3' : decode c.code (pc + 3) = .ok (.dup, 1) := by rw [hb]; exact d3
  have d4' : decode c.code (pc + 4) = .ok (.ldc is, 2) := by rw [hb]; exact d4
  have hstr' : vk_R own is text sa s' := vk_R.warm hW0 hstr
  obtain ⟨U, hsteps, hrun, hend, hW, hsame, ce, hce, hO⟩ := X₁.ctorThrowS hexec htr (own := own) (cls := cls) (names := names) (ic := ic) hown' hcls hnames h (fun x hx => nomatch hx) hfX hkX hcellA (by rw [hhp, hT]; exact Nat.le_refl _) (msg := .ref sa) rfl
    (g := { method := m, pc := pc + 6, locals := ls, stack := .ref sa :: .ref T.heap.size :: .ref T.heap.size :: rest, locked := none }) rfl hsize rfl rfl (rest := rest) rfl
    (by rw [hb]; exact d6) (by rw [hb]; exact d9) hout hRframes (by simp only [List.map_cons, List.sum_cons, hcat]; omega) hlocks
  obtain ⟨f1, f2⟩ := vx_frame hsame
  rw [hhp] at f1 f2
  have hWs : s.WarmedH U.vm := State.WarmedH.trans hW0 hW
  have hcl : s.vm.findClass cls = some ce.cls := by
    have h9 := hO.cls
    rw [hvm] at h9
    exact h9
  have hall : s.sameButNew ({ U with vm := s.vm } : State) locs mc ms := by
    subst hA
    obtain ⟨e1, e2⟩ := hsame
    rw [State.setFrames_setFrames] at e1
    have h2 : (T.setVm s.vm).sameButNew ({ U with vm := s.vm } : State) [] (0 + 1) (0 + 6) := ⟨e1, e2⟩
    have h3 := X.same.trans h2
    rw [List.append_nil] at h3
    exact h3.mono hc hs
  refine ⟨U, ?_, .threw T.heap.size, hrun, hend, Or.inr ⟨T.heap.size, rfl, cls, ce, locs, hx U hWs.alike f1 (fun q hq => f2 q hq (fun z hz => nomatch hz)), hce, hO.vm, hcl, hWs, hall, hf⟩⟩
  refine st1 _ ?_
  show Steps p.tables e below (T1.setTop { method := m, pc := pc + 3, locals := ls, stack := .ref T.heap.size :: rest, locked := none }) _
  jvm_step X₁.here [X₁.here.top, hexec, d3', Value.category]
  exact X₁.ldcString hexec (own := own) (text := text) (index := is) (a := sa) hown' hstr'.1 hstr'.2
    (g := { method := m, pc := pc + 4, locals := ls, stack := .ref T.heap.size :: .ref T.heap.size :: rest, locked := none }) rfl d4' _ hsteps
/-- 'throw new E("text")', the text by a wide index -/
theorem vx_throwSW {cc : ByteArray} {pc : Nat} (hexec : p.tables.exec = Jvm.exec) (hb : c.code = cc) (hl : l.stackTraces = false) {own cls text : String} {names : List String} {ik is ic mc ms sa : Nat} {A : Nat → Prop}
    (hown : s.vm.findClass own = some m.cls) (hcls : Bundle.fit cls = true) (hnames : ∀ n ∈ names, Bundle.fit n = true)
    (hk : (Cond.classLink own ik cls).before args s = true) (hini : (Cond.initialized cls).before args s = true) (hstr : vk_R own is text sa s) (hat : ∀ w ∈ vx_atS own ic cls names, w.before args s = true)
    (hgood : ∀ w ∈ Cond.classLink own ik cls :: Cond.initialized cls :: vx_atS own ic cls names, vx_ot w = true)
    (hU : vx_Zq Bundle.tN "UNASSIGNED_STACK" Bundle.steD A s s.heap) (hN : vx_Zq Bundle.tN "SUPPRESSED_SENTINEL" Bundle.listD A s s.heap) (hS : va_S A s.heap H locs) (hsize : ls.size = c.maxLocals)
    (d0 : decode cc pc = .ok (.new ik, 3)) (d3 : decode cc (pc + 3) = .ok (.dup, 1)) (d4 : decode cc (pc + 4) = .ok (.ldc_w is, 3)) (d7 : decode cc (pc + 7) = .ok (.invokespecial ic, 3)) (d10 : decode cc (pc + 10) = .ok (.athrow, 1))
    (hout : ∀ x ∈ c.exceptionTable.toList, covers x (pc + 10) = false)
    (hRframes : names.length + 3 < R.frames) (hRlocals : (rest.map fun v => v.category).sum + (13 * (names.length + 1) + 43) ≤ R.locals) (hRcells : cells + 1 ≤ R.cells) (hRslots : slots + 6 ≤ R.slots) (hlocks : meth.locks = false)
    (hx : ∀ t : State, s.vm.Alike t.vm → H.size ≤ t.heap.size → (∀ q : Nat, q < H.size → t.heap[q]? = H[q]?) → XC cls s t)
    (hf : ∀ z ∈ locs, free z.base) (hc : cells + 1 ≤ mc) (hs : slots + 6 ≤ ms) :
    W p l e R s m args below meth c H locs cells slots (vx_MQ below Qc XC args s mc ms free) (F0 m pc ls rest) := by
  intro T hT X
  have htr : e.platform.stackTraces = false := (show e.platform.stackTraces = l.stackTraces by rw [X.admits.platform]).trans hl
  have Y := vx_rebase X (R' := { frames := R.frames, locals := R.locals, cells := 1, slots := 6 }) (Nat.le_refl _) (Nat.le_refl _) hRcells hRslots
  obtain ⟨s', hA⟩ : ∃ z, z = (T.setVm s.vm).setFrames (.invoking m args :: below) := ⟨_, rfl⟩
  rw [← hA] at Y
  have hvm : s'.vm = s.vm := by rw [hA]; rfl
  have hhp : s'.heap = H := by rw [hA]; exact hT
  have hW0 : s.WarmedH s'.vm := by rw [hvm]; exact State.WarmedH.refl s
  have hat' : ∀ w ∈ vx_atS own ic cls names, w.before args s' = true := fun w hw => vx_ot_at hW0 hvm.symm (hgood w (List.mem_cons_of_mem _ (List.mem_cons_of_mem _ hw))) (hat w hw)
  have hk' : (Cond.classLink own ik cls).before args s' = true := vx_ot_at hW0 hvm.symm (hgood _ List.mem_cons_self) hk
  have hini' : (Cond.initialized cls).before args s' = true := vx_ot_at hW0 hvm.symm (hgood _ (List.mem_cons_of_mem _ List.mem_cons_self)) hini
  have hU' : vx_Zq Bundle.tN "UNASSIGNED_STACK" Bundle.steD A s' s'.heap := by rw [hhp]; exact vx_Zq.moved hW0.alike (hU.kept hS.2.1)
  have hN' : vx_Zq Bundle.tN "SUPPRESSED_SENTINEL" Bundle.listD A s' s'.heap := by rw [hhp]; exact vx_Zq.moved hW0.alike (hN.kept hS.2.1)
  have h : ∀ w ∈ Bundle.ownAtoms own ic cls names, w.before args s' = true := vx_own hat' (vx_isRefq hU'.1) (vx_isRefq hN'.1) hU'.2.word hN'.2.word
  have hown' : s'.vm.findClass own = some m.cls := by rw [hvm]; exact hown
  have hins : (Cond.instantiable cls 6).before args s' = true := h _ (by simp [Bundle.ownAtoms])
  obtain ⟨vm₁, cX, kX, hfX, hkX, -, -, X₁, st1⟩ := Y.newCold hexec (own := own) (C := cls) (index := ik) (n := 6) hown' hk' hins hini'
    (g := F0 m pc ls rest) rfl (by rw [hb]; exact d0) (Nat.le_refl _) (Nat.le_refl _)
  generalize hT1 : (T.setVm vm₁).pushCell { cls := cX, slots := kX.instanceTypes.map defaultValue, vm := .none } = T1 at X₁ st1
  have hcat : (Value.ref T.heap.size).category = 1 := rfl
  have hcellA : T1.heap[T.heap.size]? = some (freshCell cX kX) := by rw [← hT1]; exact State.heap_pushCell_size _ _
  have d3' : decode c.code (pc + 3) = .ok (.dup, 1) := by rw [hb]; exact d3
  have d4' : decode c.code (pc + 4) = .ok (.ldc_w is, 3) := by rw [hb]; exact d4
  have hstr' : vk_R own is text sa s' := vk_R.warm hW0 hstr
  obtain ⟨U, hsteps, hrun, hend, hW, hsame, ce, hce, hO⟩ := X₁.ctorThrowS hexec htr (own := own) (cls := cls) (names := names) (ic := ic) hown' hcls hnames h (fun x hx => nomatch hx) hfX hkX hcellA (by rw [hhp, hT]; exact Nat.le_refl _) (msg := .ref sa) rfl
    (g := { method := m, pc := pc + 7, locals := ls, stack := .ref sa :: .ref T.heap.size :: .ref T.heap.size :: rest, locked := none }) rfl hsize rfl rfl (rest := rest) rfl
    (by rw [hb]; exact d7) (by rw [hb]; exact d10) hout hRframes (by simp only [List.map_cons, List.sum_cons, hcat]; omega) hlocks
  obtain ⟨f1, f2⟩ := vx_frame hsame
  rw [hhp] at f1 f2
  have hWs : s.WarmedH U.vm := State.WarmedH.trans hW0 hW
  have hcl : s.vm.findClass cls = some ce.cls := by
    have h9 := hO.cls
    rw [hvm] at h9
    exact h9
  have hall : s.sameButNew ({ U with vm := s.vm } : State) locs mc ms := by
    subst hA
    obtain ⟨e1, e2⟩ := hsame
    rw [State.setFrames_setFrames] at e1
    have h2 : (T.setVm s.vm).sameButNew ({ U with vm := s.vm } : State) [] (0 + 1) (0 + 6) := ⟨e1, e2⟩
    have h3 := X.same.trans h2
    rw [List.append_nil] at h3
    exact h3.mono hc hs
  refine ⟨U, ?_, .threw T.heap.size, hrun, hend, Or.inr ⟨T.heap.size, rfl, cls, ce, locs, hx U hWs.alike f1 (fun q hq => f2 q hq (fun z hz => nomatch hz)), hce, hO.vm, hcl, hWs, hall, hf⟩⟩
  refine st1 _ ?_
  show Steps p.tables e below (T1.setTop { method := m, pc := pc + 3, locals := ls, stack := .ref T.heap.size :: rest, locked := none }) _
  jvm_step X₁.here [X₁.here.top, hexec, d3', Value.category]
  exact X₁.ldcStringW hexec (own := own) (text := text) (index := is) (a := sa) hown' hstr'.1 hstr'.2
    (g := { method := m, pc := pc + 4, locals := ls, stack := .ref T.heap.size :: .ref T.heap.size :: rest, locked := none }) rfl d4' _ hsteps
end Ends
section Bodies
variable {l : Launch}
theorem vx_ofW {y : MethodName} {ws ws' : List Cond} {rm : Room} {Pc : Array Value → State → Prop} {Qc : Array Value → State → Outcome → State → Prop} {XC : String → State → State → Prop} {mc ms : Nat} {free : Addr → Prop} {cc : ByteArray} {maxL : Nat} {ret : Option FieldType}
    (hy : plainName y.cls = true) (hw : ws = Cond.code y cc maxL ret :: ws')
    (body : ∀ p e s m args below meth c s₁, BodyLoose p l y (headSpec ws rm) cc maxL ret e s m args below meth c s₁ → c.maxLocals = maxL → (∀ x ∈ c.exceptionTable.toList, False) → Pc args s →
      W p l e (headSpec ws rm).room s m args below meth c s.heap [] 0 0 (vx_MQ below Qc XC args s mc ms free) (entryFrame m args maxL)) : vx_Met l y ws rm Pc Qc XC mc ms free := by
  refine MetFree.of_bodyS (code := cc) (maxLocals := maxL) (ret := ret) hy ?_ ?_
  · intro args s m h hn
    obtain ⟨meth, c, h1, h2, h3, h4, h5, h6, -, -⟩ := Cond.code_spec hn (atoms_spec (ws := ws) h _ (by rw [hw]; exact List.mem_cons_self))
    exact ⟨meth, c, h1, h2, h3, h4, h5, h6⟩
  · intro p e s m args below meth c s₁ B hml hP _
    have hh0 : s₁.heap = s.heap := by rw [B.state]; rfl
    have ht : ∀ x ∈ c.exceptionTable.toList, False := by
      obtain ⟨meth9, c9, h1, h2, -, -, -, -, h7, -⟩ := Cond.code_spec B.named (atoms_spec (ws := ws) B.pre _ (by rw [hw]; exact List.mem_cons_self))
      cases Option.some.inj (h1.symm.trans B.method)
      cases Option.some.inj (h2.symm.trans (Stand.of_body B).code)
      intro x hx
      rw [Array.isEmpty_iff.mp h7] at hx
      cases hx
    obtain ⟨t, a1, o, b1, b2, b3⟩ := body p e s m args below meth c s₁ B hml ht hP s₁ hh0 (Stand.of_body B)
    exact ⟨t, o, a1, b1, b2, b3⟩
/-- the table of a body with handlers -/
theorem vx_table {p : Program} {x y : MethodName} {S : Spec} {cc bytes : ByteArray} {maxL maxL' : Nat} {ret ret' : Option FieldType} {e : Env} {s s₁ : State} {m : MethodId} {args : Array Value} {below : List Frame} {meth : Method} {c : Code} {hh : List (Nat × Nat × Nat × Nat)}
    (B : BodyLoose p l y S cc maxL ret e s m args below meth c s₁) (h : (Cond.codeWith y bytes maxL' ret' hh).before args s = true) : c.exceptionTable.toList = tableOf hh := by
  obtain ⟨m9, meth9, c9, hn9, h1, h2, -, -, h6, -⟩ := Cond.codeWith_spec h
  cases Option.some.inj (hn9.symm.trans B.named)
  cases Option.some.inj (h1.symm.trans B.method)
  cases Option.some.inj (h2.symm.trans (Stand.of_body B).code)
  rw [← h6, table_eq]
end Bodies
end VXA
/-! ===== END ===== -/
/-! ===== BEGIN a static call of a method with an exception table ===== -/
section VXS
variable {p : Program} {l : Launch} {e : Env} {R : Room} {s : State} {m : MethodId} {args : Array Value} {below : List Frame} {meth : Method} {c : Code} {T : State} {H : Heap} {locs : List Loc} {cells slots : Nat}
abbrev vx_CSW (R : Room) (s : State) (args : Array Value) (own : String) (index : Nat) (y : MethodName) (bytes : ByteArray) (maxL : Nat) (ret : Option FieldType) (hh : List (Nat × Nat × Nat × Nat)) (ws : List Cond) (rm : Room) (mc ms n : Nat) : Prop :=
  (rm.cells = mc ∧ rm.slots = ms ∧ rm.frames + 1 ≤ R.frames ∧ 8 + (maxL + 11) + rm.locals ≤ R.locals ∧ (∀ w ∈ ws, ∀ (a' : Array Value) (U : State), s.WarmedH U.vm → w.before a' U = true) ∧ Cond.codeWith y bytes maxL ret hh ∈ ws) ∧
  (Cond.codeWith y bytes maxL ret hh).before args s = true ∧ (Cond.initialized y.cls).before args s = true ∧ (y.cls ≠ "java/lang/invoke/MethodHandle" ∧ y.cls ≠ "java/lang/invoke/VarHandle") ∧
  (∀ sig, parseMethodDescriptor y.desc = some sig → n = sig.parameters.length) ∧ (Cond.methodLink own index y).before args s = true ∧ (Cond.static y).before args s = true
theorem vx_cwSW {own : String} {index maxL mc ms : Nat} {y : MethodName} {bytes : ByteArray} {ret : Option FieldType} {hh : List (Nat × Nat × Nat × Nat)} {Ts ws ws' : List Cond} {rm : Room} (n : Nat) (ht : ∀ w ∈ Ts, w.before args s = true) (hT : GoodIn Ts (va_wsS own index y ws)) (hw : ws = Cond.codeWith y bytes maxL ret hh :: ws') (hrc : rm.cells = mc) (hrs : rm.slots = ms)
    (hd : y.cls ≠ "java/lang/invoke/MethodHandle" ∧ y.cls ≠ "java/lang/invoke/VarHandle" ∧ (parseMethodDescriptor y.desc).map (fun d => d.parameters.length) = some n) (hR : rm.frames + 1 ≤ R.frames ∧ 8 + (maxL + 11) + rm.locals ≤ R.locals) :
    vx_CSW R s args own index y bytes maxL ret hh ws rm mc ms n := by
  have ok : ∀ w ∈ va_wsS own index y ws, w.before args s = true := fun w h => ht w (hT w h).1
  have hG : GoodIn Ts ws := fun w h => hT w (by unfold va_wsS; exact List.mem_append_right _ h)
  have hc : Cond.codeWith y bytes maxL ret hh ∈ ws := by rw [hw]; exact List.mem_cons_self
  refine ⟨⟨hrc, hrs, hR.1, hR.2, pay_in ht hG, hc⟩, ht _ (hG _ hc).1, ok _ (by simp [va_wsS]), ⟨hd.1, hd.2.1⟩, fun sig h => ?_, ok _ (by simp [va_wsS]), ok _ (by simp [va_wsS])⟩
  have h2 := hd.2.2
  rw [h] at h2
  exact (Option.some.inj h2).symm
theorem vx_callSW (X : Stand p l e R s m args below meth c T locs cells slots) (hexec : p.tables.exec = Jvm.exec) {own : String} {index : Nat} {y : MethodName} {bytes : ByteArray} {maxL : Nat} {ret : Option FieldType} {hh : List (Nat × Nat × Nat × Nat)}
    (hown : s.vm.findClass own = some m.cls) (hlink : (Cond.methodLink own index y).before args s = true) (hstat : (Cond.static y).before args s = true) (hinit : (Cond.initialized y.cls).before args s = true)
    (hcode : (Cond.codeWith y bytes maxL ret hh).before args s = true) (hy : y.cls ≠ "java/lang/invoke/MethodHandle" ∧ y.cls ≠ "java/lang/invoke/VarHandle")
    {W9 : Nat} {Pre : Pt → Array Value → Prop} {Post : Pt → Array Value → Option Value → Pt → Prop} (hK : Back l R p e below s args y 3 W9 Pre Post)
    {g : JFrame} (hg : g.method = m) (hsize : g.locals.size = c.maxLocals) {argsL rest : List Value} (hlen : ∀ sig, parseMethodDescriptor y.desc = some sig → argsL.length = sig.parameters.length)
    (hstack : g.stack = argsL.reverse ++ rest) (hW : 2 * g.monitorRoom + (rest.map fun v => v.category).sum ≤ W9) (hdg : decode c.code g.pc = .ok (.invokestatic index, 3))
    (hpre : ∀ vm₁, s.WarmedH vm₁ → Pre ⟨T.setVm vm₁, locs, cells, slots⟩ argsL.toArray) :
    ∃ (v : Option Value) (vm₁ : Vm) (B : Pt), s.WarmedH vm₁ ∧ Stand p l e R s m args below meth c B.U B.locs B.cells B.slots ∧ Post ⟨T.setVm vm₁, locs, cells, slots⟩ argsL.toArray v B ∧
      ∀ target, Steps p.tables e below (B.U.setTop { g with pc := g.pc + 3, stack := v.toList ++ rest }) target → Steps p.tables e below (T.setTop g) target := by
  obtain ⟨mk, methM, cM, hnamed, hmethM, -, -, -, -, -, -, hsigM⟩ := Cond.codeWith_spec hcode
  have hstatic : methM.isStatic = true := Cond.static_spec hnamed hmethM hstat
  obtain ⟨kP, hkP, -⟩ := className_of_methodNamed hnamed
  have hinitP : kP.init = .initialized := Cond.initialized_spec (findClass_of_methodNamed hnamed) hkP hinit
  obtain ⟨vm₁, X₁, hstep₁⟩ := X.invokestatic hexec hown hlink hnamed hmethM hstatic hkP hinitP hy (g := g) hg (argsL := argsL) (rest := rest) (hlen _ hsigM) hstack hdg
  obtain ⟨v, B, X', hpost, hsteps⟩ := hK m meth c ⟨T.setVm vm₁, locs, cells, slots⟩ { g with stack := rest } (.invokestatic index) mk argsL.toArray X₁ hg hsize hdg hW (X₁.named hnamed) (hpre vm₁ X₁.warmed)
  exact ⟨v, vm₁, B, X₁.warmed, X', hpost, fun target h => hstep₁ _ fun acts => by rw [doInvoke_state]; exact hsteps.trans h⟩
theorem vx_runSW {y : MethodName} {bytes cc : ByteArray} {maxL nL mc ms n index : Nat} {ret : Option FieldType} {hh : List (Nat × Nat × Nat × Nat)} {ws : List Cond} {rm : Room} {Pc : Array Value → State → Prop} {Qc : Array Value → State → Outcome → State → Prop} {free : Addr → Prop} {Ts : List Cond} {own : String} {As rest : List Value} {g : JFrame}
    (S : CallFix p m c cc nL s args Ts own) (hM : Met l y ws rm Pc Qc mc ms free) (cw : vx_CSW R s args own index y bytes maxL ret hh ws rm mc ms n) (hp : PreS s H Pc As)
    (hg : g.method = m) (hn : As.length = n) (hsize : g.locals.size = nL) (hstack : g.stack = As.reverse ++ rest) (hW : 2 * g.monitorRoom + (rest.map fun v => v.category).sum ≤ 8) (hdg : decode cc g.pc = .ok (.invokestatic index, 3)) (hf : cells + mc ≤ R.cells ∧ slots + ms ≤ R.slots) :
    va_Run p l e R s m args below meth c H locs cells slots mc ms g rest (Qc As.toArray) (free) := by
  obtain ⟨⟨hrc, hrs, hfr, hlo, hws, hcw⟩, hcode, hini, hy, hlen, hl, hstt⟩ := cw
  have hK : Back l R p e below s args y 3 8 (PreOf R mc ms Pc) (PostOf Qc mc ms free) := va_backW (hh := hh) (bytes := bytes) (maxL := maxL) (ret := ret) hM hp.1 hrc hrs hfr hlo hws hcw (fun a' U hW => word_at hW (Or.inl (by first | rfl | simp [Cond.onTables, Cond.keeps, Cond.steady])) hini)
  obtain ⟨hx, hb, hml, ho, -⟩ := S
  intro T hT X
  obtain ⟨v, vm₁, ⟨U', l2, c2, s2⟩, hW₁, X', ⟨g', mk, t, L, e1, e2, hq, h1, hL, h2, h3⟩, st⟩ := vx_callSW X hx (hh := hh) (bytes := bytes) (maxL := maxL) (ret := ret) ho hl hstt hini hcode hy hK hg (hsize.trans hml.symm) (argsL := As) (rest := rest) (fun sig h => hn.trans (hlen sig h)) hstack hW (by rw [hb]; exact hdg)
    (fun vm₁ hW₁ => ⟨hf.1, hf.2, hp.2 (T.setVm vm₁) hT hW₁⟩)
  dsimp only [Pt.U, Pt.locs, Pt.cells, Pt.slots] at X' e1 e2 h1 h2 h3 st
  subst h1; subst h2; subst h3
  exact ⟨v, (T.setVm vm₁).calling g' mk As.toArray, t, U', L, hT, X', hL, e1, e2, hq, st⟩
/-- not caught here, past rows that name other classes: it goes on to the caller -/
theorem vx_outP {p : Program} {l : Launch} {e : Env} {R : Room} {s : State} {m : MethodId} {args : Array Value} {below : List Frame} {meth : Method} {c : Code} {H : Heap} {locs : List Loc} {cells slots : Nat} {free : Addr → Prop} {ls : Array Slot} {rest : List Value} {Qc : Array Value → State → Outcome → State → Prop} {XC : String → State → State → Prop}
    {pc : Nat} {own E : String} {ce : Cell} {q : Addr} {mc ms : Nat} (hown : s.vm.findClass own = some m.cls) (hlocks : meth.locks = false)
    (hpass : ∀ z ∈ c.exceptionTable.toList, covers z pc = false ∨ (z.catchType ≠ 0 ∧ ∃ nm : String, (Cond.classLink own z.catchType nm).before args s = true ∧ va_Nc E nm s)) (hcell : H[q]? = some ce) (hv : ce.vm = .none) (hcl : s.vm.findClass E = some ce.cls)
    (hx : ∀ t : State, t.heap = H → s.vm.Alike t.vm → XC E s t) (hf : ∀ z ∈ locs, free z.base) (hc : cells ≤ mc) (hs : slots ≤ ms) :
    vx_W p l e R s m args below meth c H locs cells slots (vx_MQ below Qc XC args s mc ms free) (F0 m pc ls rest) q := by
  intro T hT X
  have hpl : e.platform.magicAccessors = ({} : Platform).magicAccessors := by rw [X.admits.platform]
  obtain ⟨vm', hW', X', st⟩ := X.outThrough hlocks q (g := F0 m pc ls rest) rfl rfl rfl (cell := ce) (by rw [hT]; exact hcell) (by rw [hv]; rfl)
    (by obtain ⟨k9, h9, -⟩ := Vm.findClass_spec hcl; exact ⟨k9, h9⟩) (fun z hz => by
      rcases hpass z hz with h | ⟨hz0, nm, hl1, hn1⟩
      · exact Or.inl h
      · obtain ⟨c6, hc6, hcl6⟩ := Cond.classLink_spec hown hl1 e.platform hpl
        obtain ⟨a8, b8, h1, h2, h3⟩ := hn1
        cases Option.some.inj (h1.symm.trans hcl)
        cases Option.some.inj (h2.symm.trans hc6)
        exact Or.inr ⟨hz0, _, hcl6, h3⟩)
  obtain ⟨g₀, hfr⟩ := X'.frames_eq
  have hcell9 : ((T.setVm vm').setFrames (.throwing q :: below)).heap[q]? = some ce := by
    show T.heap[q]? = some ce
    rw [hT]; exact hcell
  have hend : Ended ((T.setVm vm').setFrames (.throwing q :: below)) below (.threw q) := State.frames_setFrames _ (State.cur_lt_of_frames hfr)
  refine ⟨(T.setVm vm').setFrames (.throwing q :: below), ?_, .threw q, X'.here.running, hend, Or.inr ⟨q, rfl, E, ce, locs, hx _ hT (X'.ends _).1.alike, hcell9, hv, hcl, (X'.ends _).1, (X'.ends _).2.mono hc hs, hf⟩⟩
  rw [X.pushThrowing_eq]
  exact st
/-- a thing of a world lies in the heap -/
theorem vx_lt {D : va_G} {cl : List vw_C} {ws : va_W} {H1 : Heap} (h : va_P D cl ws H1) {k : Nat} {q : Nat × va_E} (hk : ws[k]? = some q) : q.1 < H1.size := (h k q hk).lt
end VXS
/-! ===== END ===== -/
/-! ===== BEGIN methods with a table of their own: called by a name, returning or throwing ===== -/
section VXH
/-! vx_backW, vx_callVX, vx_callSX, vx_callVW, vx_runVW, vx_runVX, vx_runSX, vx_ofWH follow the same proofs as their sisters above (Free/Laws.lean, Shelf42/LK1.lean); vx_outP calls Shelf42/NT130.lean (outThrough). -/
section
variable {l : Launch} {R : Room} {p : Program} {e : Env} {below : List Frame} {s : State} {sargs : Array Value} {y : MethodName} {len W9 : Nat}
theorem vx_backW {ws : List Cond} {rm : Room} {Pc : Array Value → State → Prop} {Qc : Array Value → State → Outcome → State → Prop} {XC : String → State → State → Prop} {mc ms : Nat} {free : Addr → Prop} {bytes : ByteArray} {maxL : Nat} {ret : Option FieldType} {hh : List (Nat × Nat × Nat × Nat)}
    (hM : vx_Met l y ws rm Pc Qc XC mc ms free) (hblind : FrameBlind Pc) (hrc : rm.cells = mc) (hrs : rm.slots = ms)
    (hframes : rm.frames + 1 ≤ R.frames) (hlocals : W9 + (maxL + 11) + rm.locals ≤ R.locals)
    (hws : ∀ w ∈ ws, ∀ a' U, s.WarmedH U.vm → w.before a' U = true) (hcode : Cond.codeWith y bytes maxL ret hh ∈ ws) (hinit : ∀ a' U, s.WarmedH U.vm → (Cond.initialized y.cls).before a' U = true) :
    vx_Back l R p e below s sargs y len W9 (PreOf R mc ms Pc) (PostOf Qc mc ms free) (vx_Post XC mc ms free) := by
  intro m meth c A g ig mk a X hg hsize hdg hW hn hp
  have h1 : (headSpec ws rm).pre.before a A.U = true := atoms_intro fun w hw => hws w hw _ _ X.warmed
  have h2 : (Cond.codeWith y bytes maxL ret hh).before a A.U = true := hws _ hcode _ _ X.warmed
  have h3 : (Cond.initialized y.cls).before a A.U = true := hinit _ _ X.warmed
  have h4 : A.cells + (headSpec ws rm).room.cells ≤ R.cells := by rw [show (headSpec ws rm).room.cells = mc from hrc]; exact hp.1
  have h5 : A.slots + (headSpec ws rm).room.slots ≤ R.slots := by rw [show (headSpec ws rm).room.slots = ms from hrs]; exact hp.2.1
  have hPc : Pc a (A.U.calling g mk a) := hblind _ _ _ _ hp.2.2
  obtain ⟨U, Ls, c0, s0⟩ := A
  dsimp only [Pt.U, Pt.locs, Pt.cells, Pt.slots] at h1 h2 h3 h4 h5 X hn hPc ⊢
  obtain ⟨m9, methY, cY, hn9, hmY, hcY, -, hlY, -⟩ := Cond.codeWith_spec h2
  cases Option.some.inj (hn9.symm.trans hn)
  obtain ⟨kY, hkY, -⟩ := className_of_methodNamed hn
  have hinitY : kY.init = .initialized := Cond.initialized_spec (findClass_of_methodNamed hn) hkY h3
  have h : At U g.method c below := by rw [hg]; exact X.here
  have hlocals9 : W9 + (maxL + 11) + (headSpec ws rm).room.locals ≤ R.locals := hlocals
  have happ : (headSpec ws rm).appliesLoose y e.platform (U.calling g mk a) = true :=
    Spec.appliesLoose_calling (g := g) h hdg hn hkY hinitY
      (X.room_calling (g := g) (R' := (headSpec ws rm).room) hsize hmY hcY hframes (by rw [hlY]; omega) h4 h5) h1
  obtain ⟨mid, hmid⟩ := h.above
  have hfr : (U.setTop g).frames = (.java g :: mid) ++ below := by rw [State.frames_setTop' g h.top, hmid]; rfl
  obtain ⟨o, s₂, hsteps, -, hend, hq⟩ := Steps.callFree hM p X.admits X.cas X.clock (acts := []) hfr happ hPc trivial
  have hq' : vx_Q Qc XC mc ms free a (U.calling g mk a) o s₂ := hq
  rw [State.frames_setTop' g h.top] at hend
  obtain ⟨g₀, hg0⟩ := Option.isSome_iff_exists.mp h.top
  obtain ⟨r, hr⟩ := State.topJava?_eq_some.mp hg0
  have hr' : (({ U with heap := s₂.heap, slotsUsed := s₂.slotsUsed } : State).setVm s₂.vm).frames = .java g₀ :: r := hr
  rcases hq' with ⟨hqc, L, hfe, hL⟩ | ⟨q, rfl, E, ce, L, hx, hce, hcv, hcl, hW₂, hsm, hL⟩
  · obtain ⟨⟨v, rfl⟩, hW₂, e2, q2, q3, q4, q5, q6⟩ := id hfe
    have e3 : s₂ = ({ (U.calling g mk a).setFrames s₂.frames with heap := s₂.heap, slotsUsed := s₂.slotsUsed } : State).setVm s₂.vm := by
      have : s₂ = ({ s₂ with vm := (U.calling g mk a).vm } : State).setVm s₂.vm := rfl
      rw [e2] at this
      exact this
    obtain ⟨c₂, i₂, len₂, hc₂, hd₂, hf₂⟩ := hend
    have hW' : U.WarmedH s₂.vm := hW₂
    have hcc : c₂ = c := by
      have h1 : s₂.code? g.method = U.code? g.method := by
        rw [State.code?_eq, State.code?_eq, hW'.alike.method?]
      exact Option.some.inj (hc₂.symm.trans (h1.trans h.code))
    subst hcc
    have hlen : len₂ = len := by rw [hdg] at hd₂; cases hd₂; rfl
    subst hlen
    have hs₂ : s₂ = (({ U with heap := s₂.heap, slotsUsed := s₂.slotsUsed } : State).setVm s₂.vm).setTop { g with pc := g.pc + len₂, stack := v.toList ++ g.stack } := by
      refine e3.trans ?_
      rw [hf₂, State.calling_eq h.top, State.setFrames_setFrames, State.setTop_of_frames _ hr', hr]
      rfl
    have hsame : U.sameButNew ({ U with heap := s₂.heap, slotsUsed := s₂.slotsUsed } : State) L mc ms := by
      refine ⟨?_, q2, q3, q4, q5, q6⟩
      obtain ⟨t, ht, -⟩ := State.frames_cons hr
      show ({ U with heap := s₂.heap, slotsUsed := s₂.slotsUsed } : State) = { U.setFrames U.frames with heap := s₂.heap, slotsUsed := s₂.slotsUsed }
      rw [State.setFrames_self ht]
    subst hg
    refine Or.inl ⟨v, ⟨(({ U with heap := s₂.heap, slotsUsed := s₂.slotsUsed } : State).setVm s₂.vm), Ls ++ L, c0 + mc, s0 + ms⟩,
      ⟨X.admits, X.cas, X.clock, X.frames, X.room, X.hears, X.method, X.code, (X.here.setHeapUsed s₂.heap s₂.slotsUsed).setVm hW'.alike, X.tail, State.WarmedH.trans X.warmed hW', X.limits, X.bytes, X.same.trans (hsame.setVm s.vm)⟩,
      ⟨g, mk, s₂, L, rfl, rfl, hqc, rfl, hL, rfl, rfl⟩, ?_⟩
    show Steps p.tables e below _ ((({ U with heap := s₂.heap, slotsUsed := s₂.slotsUsed } : State).setVm s₂.vm).setTop { g with pc := g.pc + len₂, stack := v.toList ++ g.stack })
    rw [← hs₂]
    exact hsteps
  · obtain ⟨e2, q2, q3, q4, q5, q6⟩ := id hsm
    have e3 : s₂ = ({ (U.calling g mk a).setFrames s₂.frames with heap := s₂.heap, slotsUsed := s₂.slotsUsed } : State).setVm s₂.vm := by
      have : s₂ = ({ s₂ with vm := (U.calling g mk a).vm } : State).setVm s₂.vm := rfl
      rw [e2] at this
      exact this
    have hf₂ : s₂.frames = .throwing q :: .java g :: U.frames.tail := hend
    have hW' : U.WarmedH s₂.vm := hW₂
    have hs₂ : s₂ = ((({ U with heap := s₂.heap, slotsUsed := s₂.slotsUsed } : State).setVm s₂.vm).setTop g).pushFrame (.throwing q) := by
      refine e3.trans ?_
      rw [hf₂, State.calling_eq h.top, State.setFrames_setFrames, State.pushFrame, State.frames_setTop _ hr', State.setTop_of_frames _ hr', State.setFrames_setFrames, hr]
      rfl
    have hsame : U.sameButNew ({ U with heap := s₂.heap, slotsUsed := s₂.slotsUsed } : State) L mc ms := by
      refine ⟨?_, q2, q3, q4, q5, q6⟩
      obtain ⟨t, ht, -⟩ := State.frames_cons hr
      show ({ U with heap := s₂.heap, slotsUsed := s₂.slotsUsed } : State) = { U.setFrames U.frames with heap := s₂.heap, slotsUsed := s₂.slotsUsed }
      rw [State.setFrames_self ht]
    subst hg
    refine Or.inr ⟨q, ⟨(({ U with heap := s₂.heap, slotsUsed := s₂.slotsUsed } : State).setVm s₂.vm), Ls ++ L, c0 + mc, s0 + ms⟩,
      ⟨X.admits, X.cas, X.clock, X.frames, X.room, X.hears, X.method, X.code, (X.here.setHeapUsed s₂.heap s₂.slotsUsed).setVm hW'.alike, X.tail, State.WarmedH.trans X.warmed hW', X.limits, X.bytes, X.same.trans (hsame.setVm s.vm)⟩,
      ⟨g, mk, s₂, L, E, ce, rfl, rfl, hx, hce, hcv, hcl, rfl, hL, rfl, rfl⟩, ?_⟩
    show Steps p.tables e below _ (((({ U with heap := s₂.heap, slotsUsed := s₂.slotsUsed } : State).setVm s₂.vm).setTop g).pushFrame (.throwing q))
    rw [← hs₂]
    exact hsteps
end
variable {p : Program} {l : Launch} {e : Env} {R : Room} {s : State} {m : MethodId} {args : Array Value} {below : List Frame} {meth : Method} {c : Code} {T : State} {H : Heap} {locs : List Loc} {cells slots : Nat}
theorem vx_callVX (X : Stand p l e R s m args below meth c T locs cells slots) (hexec : p.tables.exec = Jvm.exec) {own C : String} {index : Nat} {y : MethodName} {bytes : ByteArray} {maxL : Nat} {ret : Option FieldType} {hh : List (Nat × Nat × Nat × Nat)}
    (hown : s.vm.findClass own = some m.cls) (hlink : (Cond.methodLink own index y).before args s = true) (hinst : (Cond.instanceMethod y).before args s = true) (hsel : (Cond.selects C y y).before args s = true)
    (hcode : (Cond.codeWith y bytes maxL ret hh).before args s = true) (hy : y.cls ≠ "java/lang/invoke/MethodHandle" ∧ y.cls ≠ "java/lang/invoke/VarHandle")
    {W9 : Nat} {Pre : Pt → Array Value → Prop} {Post : Pt → Array Value → Option Value → Pt → Prop} {PostX : Pt → Array Value → Addr → Pt → Prop} (hK : vx_Back l R p e below s args y 3 W9 Pre Post PostX)
    {b : Addr} {cellB : Cell} (hcell : T.heap[b]? = some cellB) (hobj : cellB.vm.isStatics = false) (hcls : s.vm.findClass C = some cellB.cls)
    {g : JFrame} (hg : g.method = m) (hsize : g.locals.size = c.maxLocals) {argsL rest : List Value} (hlen : ∀ sig, parseMethodDescriptor y.desc = some sig → argsL.length = sig.parameters.length)
    (hstack : g.stack = argsL.reverse ++ .ref b :: rest) (hW : 2 * g.monitorRoom + (rest.map fun v => v.category).sum ≤ W9) (hdg : decode c.code g.pc = .ok (.invokevirtual index, 3))
    (hpre : ∀ vm₁, s.WarmedH vm₁ → Pre ⟨T.setVm vm₁, locs, cells, slots⟩ (Value.ref b :: argsL).toArray) :
    (∃ (v : Option Value) (vm₁ : Vm) (B : Pt), s.WarmedH vm₁ ∧ Stand p l e R s m args below meth c B.U B.locs B.cells B.slots ∧ Post ⟨T.setVm vm₁, locs, cells, slots⟩ (Value.ref b :: argsL).toArray v B ∧
      ∀ target, Steps p.tables e below (B.U.setTop { g with pc := g.pc + 3, stack := v.toList ++ rest }) target → Steps p.tables e below (T.setTop g) target) ∨
    (∃ (q : Addr) (vm₁ : Vm) (B : Pt), s.WarmedH vm₁ ∧ Stand p l e R s m args below meth c B.U B.locs B.cells B.slots ∧ PostX ⟨T.setVm vm₁, locs, cells, slots⟩ (Value.ref b :: argsL).toArray q B ∧
      Steps p.tables e below (T.setTop g) ((B.U.setTop { g with stack := rest }).pushFrame (.throwing q))) := by
  obtain ⟨mk, methM, hnamed, hmethM, hstM, habM⟩ := Cond.instanceMethod_spec hinst
  obtain ⟨m8, methM', cM, hn8, hmethM', -, -, -, -, -, -, hsigM⟩ := Cond.codeWith_spec hcode
  cases Option.some.inj (hn8.symm.trans hnamed)
  cases hmethM.symm.trans hmethM'
  obtain ⟨c2, r2, m2, q1, q2, q3, q4, kP, hkP, hkPi⟩ := Cond.selects_spec hsel
  cases hcls.symm.trans q1
  cases (State.methodFound?_of_named hnamed hy).symm.trans q2
  cases hnamed.symm.trans q3
  have hselP : selectMethod e.platform s.vm cellB.cls mk = .method mk := by rw [Launch.admits_selectMethod X.admits]; exact q4
  obtain ⟨vm₁, X₁, hstep₁⟩ := X.invokevirtual hexec hown hlink hnamed hmethM hstM hkP hkPi hy (a := b) (cell := cellB) hcell
    (fun z h => by rw [h] at hobj; cases hobj) hselP hmethM habM hkP hkPi (g := g) hg (argsL := argsL) (rest := rest) (hlen _ hsigM) hstack hdg
  rcases hK m meth c ⟨T.setVm vm₁, locs, cells, slots⟩ { g with stack := rest } (.invokevirtual index) mk (Value.ref b :: argsL).toArray X₁ hg hsize hdg hW (X₁.named hnamed) (hpre vm₁ X₁.warmed) with ⟨v, B, X', hpost, hsteps⟩ | ⟨q, B, X', hpost, hsteps⟩
  · exact Or.inl ⟨v, vm₁, B, X₁.warmed, X', hpost, fun target h => hstep₁ _ fun acts => by rw [doInvoke_state]; exact hsteps.trans h⟩
  · exact Or.inr ⟨q, vm₁, B, X₁.warmed, X', hpost, hstep₁ _ fun acts => by rw [doInvoke_state]; exact hsteps⟩
theorem vx_callSX (X : Stand p l e R s m args below meth c T locs cells slots) (hexec : p.tables.exec = Jvm.exec) {own : String} {index : Nat} {y : MethodName} {bytes : ByteArray} {maxL : Nat} {ret : Option FieldType} {hh : List (Nat × Nat × Nat × Nat)}
    (hown : s.vm.findClass own = some m.cls) (hlink : (Cond.methodLink own index y).before args s = true) (hstat : (Cond.static y).before args s = true) (hinit : (Cond.initialized y.cls).before args s = true)
    (hcode : (Cond.codeWith y bytes maxL ret hh).before args s = true) (hy : y.cls ≠ "java/lang/invoke/MethodHandle" ∧ y.cls ≠ "java/lang/invoke/VarHandle")
    {W9 : Nat} {Pre : Pt → Array Value → Prop} {Post : Pt → Array Value → Option Value → Pt → Prop} {PostX : Pt → Array Value → Addr → Pt → Prop} (hK : vx_Back l R p e below s args y 3 W9 Pre Post PostX)
    {g : JFrame} (hg : g.method = m) (hsize : g.locals.size = c.maxLocals) {argsL rest : List Value} (hlen : ∀ sig, parseMethodDescriptor y.desc = some sig → argsL.length = sig.parameters.length)
    (hstack : g.stack = argsL.reverse ++ rest) (hW : 2 * g.monitorRoom + (rest.map fun v => v.category).sum ≤ W9) (hdg : decode c.code g.pc = .ok (.invokestatic index, 3))
    (hpre : ∀ vm₁, s.WarmedH vm₁ → Pre ⟨T.setVm vm₁, locs, cells, slots⟩ argsL.toArray) :
    (∃ (v : Option Value) (vm₁ : Vm) (B : Pt), s.WarmedH vm₁ ∧ Stand p l e R s m args below meth c B.U B.locs B.cells B.slots ∧ Post ⟨T.setVm vm₁, locs, cells, slots⟩ argsL.toArray v B ∧
      ∀ target, Steps p.tables e below (B.U.setTop { g with pc := g.pc + 3, stack := v.toList ++ rest }) target → Steps p.tables e below (T.setTop g) target) ∨
    (∃ (q : Addr) (vm₁ : Vm) (B : Pt), s.WarmedH vm₁ ∧ Stand p l e R s m args below meth c B.U B.locs B.cells B.slots ∧ PostX ⟨T.setVm vm₁, locs, cells, slots⟩ argsL.toArray q B ∧
      Steps p.tables e below (T.setTop g) ((B.U.setTop { g with stack := rest }).pushFrame (.throwing q))) := by
  obtain ⟨mk, methM, cM, hnamed, hmethM, -, -, -, -, -, -, hsigM⟩ := Cond.codeWith_spec hcode
  have hstatic : methM.isStatic = true := Cond.static_spec hnamed hmethM hstat
  obtain ⟨kP, hkP, -⟩ := className_of_methodNamed hnamed
  have hinitP : kP.init = .initialized := Cond.initialized_spec (findClass_of_methodNamed hnamed) hkP hinit
  obtain ⟨vm₁, X₁, hstep₁⟩ := X.invokestatic hexec hown hlink hnamed hmethM hstatic hkP hinitP hy (g := g) hg (argsL := argsL) (rest := rest) (hlen _ hsigM) hstack hdg
  rcases hK m meth c ⟨T.setVm vm₁, locs, cells, slots⟩ { g with stack := rest } (.invokestatic index) mk argsL.toArray X₁ hg hsize hdg hW (X₁.named hnamed) (hpre vm₁ X₁.warmed) with ⟨v, B, X', hpost, hsteps⟩ | ⟨q, B, X', hpost, hsteps⟩
  · exact Or.inl ⟨v, vm₁, B, X₁.warmed, X', hpost, fun target h => hstep₁ _ fun acts => by rw [doInvoke_state]; exact hsteps.trans h⟩
  · exact Or.inr ⟨q, vm₁, B, X₁.warmed, X', hpost, hstep₁ _ fun acts => by rw [doInvoke_state]; exact hsteps⟩
theorem vx_callVW (X : Stand p l e R s m args below meth c T locs cells slots) (hexec : p.tables.exec = Jvm.exec) {own C : String} {index : Nat} {y : MethodName} {bytes : ByteArray} {maxL : Nat} {ret : Option FieldType} {hh : List (Nat × Nat × Nat × Nat)}
    (hown : s.vm.findClass own = some m.cls) (hlink : (Cond.methodLink own index y).before args s = true) (hinst : (Cond.instanceMethod y).before args s = true) (hsel : (Cond.selects C y y).before args s = true)
    (hcode : (Cond.codeWith y bytes maxL ret hh).before args s = true) (hy : y.cls ≠ "java/lang/invoke/MethodHandle" ∧ y.cls ≠ "java/lang/invoke/VarHandle")
    {W9 : Nat} {Pre : Pt → Array Value → Prop} {Post : Pt → Array Value → Option Value → Pt → Prop} (hK : Back l R p e below s args y 3 W9 Pre Post)
    {b : Addr} {cellB : Cell} (hcell : T.heap[b]? = some cellB) (hobj : cellB.vm.isStatics = false) (hcls : s.vm.findClass C = some cellB.cls)
    {g : JFrame} (hg : g.method = m) (hsize : g.locals.size = c.maxLocals) {argsL rest : List Value} (hlen : ∀ sig, parseMethodDescriptor y.desc = some sig → argsL.length = sig.parameters.length)
    (hstack : g.stack = argsL.reverse ++ .ref b :: rest) (hW : 2 * g.monitorRoom + (rest.map fun v => v.category).sum ≤ W9) (hdg : decode c.code g.pc = .ok (.invokevirtual index, 3))
    (hpre : ∀ vm₁, s.WarmedH vm₁ → Pre ⟨T.setVm vm₁, locs, cells, slots⟩ (Value.ref b :: argsL).toArray) :
    ∃ (v : Option Value) (vm₁ : Vm) (B : Pt), s.WarmedH vm₁ ∧ Stand p l e R s m args below meth c B.U B.locs B.cells B.slots ∧ Post ⟨T.setVm vm₁, locs, cells, slots⟩ (Value.ref b :: argsL).toArray v B ∧
      ∀ target, Steps p.tables e below (B.U.setTop { g with pc := g.pc + 3, stack := v.toList ++ rest }) target → Steps p.tables e below (T.setTop g) target := by
  obtain ⟨mk, methM, hnamed, hmethM, hstM, habM⟩ := Cond.instanceMethod_spec hinst
  obtain ⟨m8, methM', cM, hn8, hmethM', -, -, -, -, -, -, hsigM⟩ := Cond.codeWith_spec hcode
  cases Option.some.inj (hn8.symm.trans hnamed)
  cases hmethM.symm.trans hmethM'
  obtain ⟨c2, r2, m2, q1, q2, q3, q4, kP, hkP, hkPi⟩ := Cond.selects_spec hsel
  cases hcls.symm.trans q1
  cases (State.methodFound?_of_named hnamed hy).symm.trans q2
  cases hnamed.symm.trans q3
  have hselP : selectMethod e.platform s.vm cellB.cls mk = .method mk := by rw [Launch.admits_selectMethod X.admits]; exact q4
  obtain ⟨vm₁, X₁, hstep₁⟩ := X.invokevirtual hexec hown hlink hnamed hmethM hstM hkP hkPi hy (a := b) (cell := cellB) hcell
    (fun z h => by rw [h] at hobj; cases hobj) hselP hmethM habM hkP hkPi (g := g) hg (argsL := argsL) (rest := rest) (hlen _ hsigM) hstack hdg
  obtain ⟨v, B, X', hpost, hsteps⟩ := hK m meth c ⟨T.setVm vm₁, locs, cells, slots⟩ { g with stack := rest } (.invokevirtual index) mk (Value.ref b :: argsL).toArray X₁ hg hsize hdg hW (X₁.named hnamed) (hpre vm₁ X₁.warmed)
  exact ⟨v, vm₁, B, X₁.warmed, X', hpost, fun target h => hstep₁ _ fun acts => by rw [doInvoke_state]; exact hsteps.trans h⟩
abbrev vx_CVW (R : Room) (s : State) (args : Array Value) (own C : String) (index : Nat) (y : MethodName) (bytes : ByteArray) (maxL : Nat) (ret : Option FieldType) (hh : List (Nat × Nat × Nat × Nat)) (ws : List Cond) (rm : Room) (mc ms n : Nat) : Prop :=
  (rm.cells = mc ∧ rm.slots = ms ∧ rm.frames + 1 ≤ R.frames ∧ 8 + (maxL + 11) + rm.locals ≤ R.locals ∧ (∀ w ∈ ws, ∀ (a' : Array Value) (U : State), s.WarmedH U.vm → w.before a' U = true) ∧ Cond.codeWith y bytes maxL ret hh ∈ ws) ∧
  (Cond.codeWith y bytes maxL ret hh).before args s = true ∧ (Cond.initialized y.cls).before args s = true ∧ (y.cls ≠ "java/lang/invoke/MethodHandle" ∧ y.cls ≠ "java/lang/invoke/VarHandle") ∧
  (∀ sig, parseMethodDescriptor y.desc = some sig → n = sig.parameters.length) ∧ (Cond.methodLink own index y).before args s = true ∧ (Cond.instanceMethod y).before args s = true ∧ (Cond.selects C y y).before args s = true
theorem vx_cwVW {own C : String} {index maxL mc ms : Nat} {y : MethodName} {bytes : ByteArray} {ret : Option FieldType} {hh : List (Nat × Nat × Nat × Nat)} {Ts ws ws' : List Cond} {rm : Room} (n : Nat) (ht : ∀ w ∈ Ts, w.before args s = true) (hT : GoodIn Ts (wsV own index C y ws)) (hw : ws = Cond.codeWith y bytes maxL ret hh :: ws') (hrc : rm.cells = mc) (hrs : rm.slots = ms)
    (hd : y.cls = C ∧ y.cls ≠ "java/lang/invoke/MethodHandle" ∧ y.cls ≠ "java/lang/invoke/VarHandle" ∧ (parseMethodDescriptor y.desc).map (fun d => d.parameters.length) = some n) (hR : rm.frames + 1 ≤ R.frames ∧ 8 + (maxL + 11) + rm.locals ≤ R.locals) :
    vx_CVW R s args own C index y bytes maxL ret hh ws rm mc ms n := by
  obtain ⟨hC, hd⟩ := hd
  subst hC
  have ok : ∀ w ∈ wsV own index y.cls y ws, w.before args s = true := fun w h => ht w (hT w h).1
  have hG : GoodIn Ts ws := fun w h => hT w (by unfold wsV; exact List.mem_append_right _ h)
  have hc : Cond.codeWith y bytes maxL ret hh ∈ ws := by rw [hw]; exact List.mem_cons_self
  refine ⟨⟨hrc, hrs, hR.1, hR.2, pay_in ht hG, hc⟩, ht _ (hG _ hc).1, ok _ (by simp [wsV]), ⟨hd.1, hd.2.1⟩, fun sig h => ?_, ok _ (by simp [wsV]), ok _ (by simp [wsV]), ok _ (by simp [wsV])⟩
  have h2 := hd.2.2
  rw [h] at h2
  exact (Option.some.inj h2).symm
theorem vx_runVW {y : MethodName} {bytes cc : ByteArray} {maxL nL mc ms n index : Nat} {ret : Option FieldType} {hh : List (Nat × Nat × Nat × Nat)} {ws : List Cond} {rm : Room} {Pc : Array Value → State → Prop} {Qc : Array Value → State → Outcome → State → Prop} {free : Addr → Prop} {Ts : List Cond} {own C : String} {b : Addr} {As rest : List Value} {g : JFrame}
    (S : CallFix p m c cc nL s args Ts own) (hM : Met l y ws rm Pc Qc mc ms free) (cw : vx_CVW R s args own C index y bytes maxL ret hh ws rm mc ms n) (hp : PreV s H C b Pc As)
    (hg : g.method = m) (hn : As.length = n) (hsize : g.locals.size = nL) (hstack : g.stack = As.reverse ++ .ref b :: rest) (hW : 2 * g.monitorRoom + (rest.map fun v => v.category).sum ≤ 8) (hdg : decode cc g.pc = .ok (.invokevirtual index, 3)) (hf : cells + mc ≤ R.cells ∧ slots + ms ≤ R.slots) :
    va_Run p l e R s m args below meth c H locs cells slots mc ms g rest (Qc (Value.ref b :: As).toArray) free := by
  obtain ⟨⟨hrc, hrs, hfr, hlo, hws, hcw⟩, hcode, hini, hy, hlen, hl, hin, hse⟩ := cw
  have hK : Back l R p e below s args y 3 8 (PreOf R mc ms Pc) (PostOf Qc mc ms free) := va_backW (hh := hh) (bytes := bytes) (maxL := maxL) (ret := ret) hM hp.1 hrc hrs hfr hlo hws hcw (fun a' U hW => word_at hW (Or.inl (by first | rfl | simp [Cond.onTables, Cond.keeps, Cond.steady])) hini)
  obtain ⟨hx, hb, hml, ho, -⟩ := S
  obtain ⟨-, ⟨cellB, hcB, hoB, hclB⟩, hPc⟩ := hp
  intro T hT X
  obtain ⟨v, vm₁, ⟨U', l2, c2, s2⟩, hW₁, X', ⟨g', mk, t, L, e1, e2, hq, h1, hL, h2, h3⟩, st⟩ := vx_callVW X hx (C := C) (hh := hh) (bytes := bytes) (maxL := maxL) (ret := ret) ho hl hin hse hcode hy hK (by rw [hT]; exact hcB) hoB hclB hg (hsize.trans hml.symm) (argsL := As) (rest := rest) (fun sig h => hn.trans (hlen sig h)) hstack hW (by rw [hb]; exact hdg)
    (fun vm₁ hW₁ => ⟨hf.1, hf.2, hPc (T.setVm vm₁) hT hW₁⟩)
  dsimp only [Pt.U, Pt.locs, Pt.cells, Pt.slots] at X' e1 e2 h1 h2 h3 st
  subst h1; subst h2; subst h3
  exact ⟨v, (T.setVm vm₁).calling g' mk (Value.ref b :: As).toArray, t, U', L, hT, X', hL, e1, e2, hq, st⟩
section
variable {y : MethodName} {bytes cc : ByteArray} {maxL nL mc ms n index : Nat} {ret : Option FieldType} {ws : List Cond} {rm : Room} {Pc : Array Value → State → Prop} {Qc : Array Value → State → Outcome → State → Prop} {XC : String → State → State → Prop} {free : Addr → Prop} {Ts : List Cond} {own C : String} {b : Addr} {As rest : List Value} {g : JFrame}
theorem vx_runVX {hh : List (Nat × Nat × Nat × Nat)} (S : CallFix p m c cc nL s args Ts own) (hM : vx_Met l y ws rm Pc Qc XC mc ms free) (cw : vx_CVW R s args own C index y bytes maxL ret hh ws rm mc ms n) (hp : PreV s H C b Pc As)
    (hg : g.method = m) (hn : As.length = n) (hsize : g.locals.size = nL) (hstack : g.stack = As.reverse ++ .ref b :: rest) (hW : 2 * g.monitorRoom + (rest.map fun v => v.category).sum ≤ 8) (hdg : decode cc g.pc = .ok (.invokevirtual index, 3)) (hf : cells + mc ≤ R.cells ∧ slots + ms ≤ R.slots) :
    vx_Run p l e R s m args below meth c H locs cells slots mc ms g rest (Qc (Value.ref b :: As).toArray) XC free := by
  obtain ⟨⟨hrc, hrs, hfr, hlo, hws, hcw⟩, hcode, hini, hy, hlen, hl, hin, hse⟩ := cw
  have hK : vx_Back l R p e below s args y 3 8 (PreOf R mc ms Pc) (PostOf Qc mc ms free) (vx_Post XC mc ms free) := vx_backW (hh := hh) (bytes := bytes) (maxL := maxL) (ret := ret) hM hp.1 hrc hrs hfr hlo hws hcw (fun a' U hW => word_at hW (Or.inl (by first | rfl | simp [Cond.onTables, Cond.keeps, Cond.steady])) hini)
  obtain ⟨hx, hb, hml, ho, -⟩ := S
  obtain ⟨-, ⟨cellB, hcB, hoB, hclB⟩, hPc⟩ := hp
  intro T hT X
  rcases vx_callVX X hx (C := C) (hh := hh) (bytes := bytes) (maxL := maxL) (ret := ret) ho hl hin hse hcode hy hK (by rw [hT]; exact hcB) hoB hclB hg (hsize.trans hml.symm) (argsL := As) (rest := rest) (fun sig h => hn.trans (hlen sig h)) hstack hW (by rw [hb]; exact hdg)
    (fun vm₁ hW₁ => ⟨hf.1, hf.2, hPc (T.setVm vm₁) hT hW₁⟩) with ⟨v, vm₁, ⟨U', l2, c2, s2⟩, hW₁, X', ⟨g', mk, t, L, e1, e2, hq, h1, hL, h2, h3⟩, st⟩ | ⟨q, vm₁, ⟨U', l2, c2, s2⟩, hW₁, X', ⟨g', mk, t, L, E, ce, e1, e2, hq, hce, hcv, hcl, h1, hL, h2, h3⟩, st⟩
  · dsimp only [Pt.U, Pt.locs, Pt.cells, Pt.slots] at X' e1 e2 h1 h2 h3 st
    subst h1; subst h2; subst h3
    exact Or.inl ⟨v, (T.setVm vm₁).calling g' mk (Value.ref b :: As).toArray, t, U', L, hT, X', hL, e1, e2, hq, st⟩
  · dsimp only [Pt.U, Pt.locs, Pt.cells, Pt.slots] at X' e1 e2 h1 h2 h3 st hcl
    subst h1; subst h2; subst h3
    exact Or.inr ⟨q, (T.setVm vm₁).calling g' mk (Value.ref b :: As).toArray, t, U', L, E, ce, hT, X', hL, e1, e2, hq, hce, hcv, vx_cls hW₁ hcl, st⟩
theorem vx_runSX {hh : List (Nat × Nat × Nat × Nat)} (S : CallFix p m c cc nL s args Ts own) (hM : vx_Met l y ws rm Pc Qc XC mc ms free) (cw : vx_CSW R s args own index y bytes maxL ret hh ws rm mc ms n) (hp : PreS s H Pc As)
    (hg : g.method = m) (hn : As.length = n) (hsize : g.locals.size = nL) (hstack : g.stack = As.reverse ++ rest) (hW : 2 * g.monitorRoom + (rest.map fun v => v.category).sum ≤ 8) (hdg : decode cc g.pc = .ok (.invokestatic index, 3)) (hf : cells + mc ≤ R.cells ∧ slots + ms ≤ R.slots) :
    vx_Run p l e R s m args below meth c H locs cells slots mc ms g rest (Qc As.toArray) XC free := by
  obtain ⟨⟨hrc, hrs, hfr, hlo, hws, hcw⟩, hcode, hini, hy, hlen, hl, hstt⟩ := cw
  have hK : vx_Back l R p e below s args y 3 8 (PreOf R mc ms Pc) (PostOf Qc mc ms free) (vx_Post XC mc ms free) := vx_backW (hh := hh) (bytes := bytes) (maxL := maxL) (ret := ret) hM hp.1 hrc hrs hfr hlo hws hcw (fun a' U hW => word_at hW (Or.inl (by first | rfl | simp [Cond.onTables, Cond.keeps, Cond.steady])) hini)
  obtain ⟨hx, hb, hml, ho, -⟩ := S
  intro T hT X
  rcases vx_callSX X hx (hh := hh) (bytes := bytes) (maxL := maxL) (ret := ret) ho hl hstt hini hcode hy hK hg (hsize.trans hml.symm) (argsL := As) (rest := rest) (fun sig h => hn.trans (hlen sig h)) hstack hW (by rw [hb]; exact hdg)
    (fun vm₁ hW₁ => ⟨hf.1, hf.2, hp.2 (T.setVm vm₁) hT hW₁⟩) with ⟨v, vm₁, ⟨U', l2, c2, s2⟩, hW₁, X', ⟨g', mk, t, L, e1, e2, hq, h1, hL, h2, h3⟩, st⟩ | ⟨q, vm₁, ⟨U', l2, c2, s2⟩, hW₁, X', ⟨g', mk, t, L, E, ce, e1, e2, hq, hce, hcv, hcl, h1, hL, h2, h3⟩, st⟩
  · dsimp only [Pt.U, Pt.locs, Pt.cells, Pt.slots] at X' e1 e2 h1 h2 h3 st
    subst h1; subst h2; subst h3
    exact Or.inl ⟨v, (T.setVm vm₁).calling g' mk As.toArray, t, U', L, hT, X', hL, e1, e2, hq, st⟩
  · dsimp only [Pt.U, Pt.locs, Pt.cells, Pt.slots] at X' e1 e2 h1 h2 h3 st hcl
    subst h1; subst h2; subst h3
    exact Or.inr ⟨q, (T.setVm vm₁).calling g' mk As.toArray, t, U', L, E, ce, hT, X', hL, e1, e2, hq, hce, hcv, vx_cls hW₁ hcl, st⟩
end
end VXH
theorem vx_ofWH {l : Launch} {y : MethodName} {ws ws' : List Cond} {rm : Room} {Pc : Array Value → State → Prop} {Qc : Array Value → State → Outcome → State → Prop} {XC : String → State → State → Prop} {mc ms : Nat} {free : Addr → Prop} {cc : ByteArray} {maxL : Nat} {ret : Option FieldType} {hh : List (Nat × Nat × Nat × Nat)}
    (hy : plainName y.cls = true) (hw : ws = Cond.codeWith y cc maxL ret hh :: ws')
    (body : ∀ p e s m args below meth c s₁, BodyLoose p l y (headSpec ws rm) cc maxL ret e s m args below meth c s₁ → c.maxLocals = maxL → Pc args s →
      W p l e (headSpec ws rm).room s m args below meth c s.heap [] 0 0 (vx_MQ below Qc XC args s mc ms free) (entryFrame m args maxL)) : vx_Met l y ws rm Pc Qc XC mc ms free := by
  refine MetFree.of_bodyS (code := cc) (maxLocals := maxL) (ret := ret) hy ?_ ?_
  · intro args s m h hn
    obtain ⟨m9, meth, c, hn9, h1, h2, h3, h4, -, h5, h6, -⟩ := Cond.codeWith_spec (atoms_spec (ws := ws) h _ (by rw [hw]; exact List.mem_cons_self))
    cases hn.symm.trans hn9
    exact ⟨meth, c, h1, h2, h3, h4, h5, h6⟩
  · intro p e s m args below meth c s₁ B hml hP _
    have hh0 : s₁.heap = s.heap := by rw [B.state]; rfl
    obtain ⟨t, a1, o, b1, b2, b3⟩ := body p e s m args below meth c s₁ B hml hP s₁ hh0 (Stand.of_body B)
    exact ⟨t, o, a1, b1, b2, b3⟩
/-! ===== END ===== -/
end
section
-- names of the methods (by tools/names.py)
abbrev k_W_init : ByteArray := prog_1_method_1_code
def y_W_init : MethodName := ⟨"WordShapes", "<init>", "(III)V"⟩
abbrev k_W_feed : ByteArray := prog_1_method_2_code
def y_W_feed : MethodName := ⟨"WordShapes", "feed", "(IIIII)I"⟩
abbrev k_W_end : ByteArray := prog_1_method_3_code
def y_W_end : MethodName := ⟨"WordShapes", "end", "(I)I"⟩
abbrev k_W_read : ByteArray := prog_1_method_4_code
def y_W_read : MethodName := ⟨"WordShapes", "read", "(I)I"⟩
abbrev k_W_fault : ByteArray := prog_1_method_5_code
def y_W_fault : MethodName := ⟨"WordShapes", "fault", "(I)I"⟩
abbrev k_W_write : ByteArray := prog_1_method_6_code
def y_W_write : MethodName := ⟨"WordShapes", "write", "(I)I"⟩
abbrev k_W_again : ByteArray := prog_1_method_7_code
def y_W_again : MethodName := ⟨"WordShapes", "again", "()I"⟩
abbrev k_W_same : ByteArray := prog_1_method_8_code
def y_W_same : MethodName := ⟨"WordShapes", "same", "(II)Z"⟩
abbrev k_W_plan : ByteArray := prog_1_method_9_code
def y_W_plan : MethodName := ⟨"WordShapes", "plan", "(II)I"⟩
abbrev k_W_ordinate : ByteArray := prog_1_method_10_code
def y_W_ordinate : MethodName := ⟨"WordShapes", "ordinate", "(III)I"⟩
abbrev k_W_byteAt : ByteArray := prog_1_method_11_code
def y_W_byteAt : MethodName := ⟨"WordShapes", "byteAt", "(I)I"⟩
abbrev k_W_count : ByteArray := prog_1_method_12_code
def y_W_count : MethodName := ⟨"WordShapes", "count", "(II)I"⟩
abbrev k_W_shapeIn : ByteArray := prog_1_method_13_code
def y_W_shapeIn : MethodName := ⟨"WordShapes", "shapeIn", "(I)LWordShapes$Shape;"⟩
abbrev k_W_feedFour : ByteArray := prog_1_method_14_code
def y_W_feedFour : MethodName := ⟨"WordShapes", "feedFour", "(I)V"⟩
abbrev k_W_wordOf : ByteArray := prog_1_method_15_code
def y_W_wordOf : MethodName := ⟨"WordShapes", "wordOf", "(I)Ljava/lang/String;"⟩
abbrev k_M_init : ByteArray := prog_7_method_1_code
def y_M_init : MethodName := ⟨"WordShapesModel", "<init>", "(III)V"⟩
abbrev k_M_thrown : ByteArray := prog_7_method_2_code
def y_M_thrown : MethodName := ⟨"WordShapesModel", "thrown", "()I"⟩
abbrev k_M_fail : ByteArray := prog_7_method_3_code
def y_M_fail : MethodName := ⟨"WordShapesModel", "fail", "(I)I"⟩
abbrev k_M_within : ByteArray := prog_7_method_4_code
def y_M_within : MethodName := ⟨"WordShapesModel", "within", "(III)Z"⟩
abbrev k_M_isSlot : ByteArray := prog_7_method_5_code
def y_M_isSlot : MethodName := ⟨"WordShapesModel", "isSlot", "(I)Z"⟩
abbrev k_M_feed : ByteArray := prog_7_method_6_code
def y_M_feed : MethodName := ⟨"WordShapesModel", "feed", "(IIIII)I"⟩
abbrev k_M_end : ByteArray := prog_7_method_7_code
def y_M_end : MethodName := ⟨"WordShapesModel", "end", "(I)I"⟩
abbrev k_M_isBlank : ByteArray := prog_7_method_8_code
def y_M_isBlank : MethodName := ⟨"WordShapesModel", "isBlank", "(I)Z"⟩
abbrev k_M_isLetter : ByteArray := prog_7_method_9_code
def y_M_isLetter : MethodName := ⟨"WordShapesModel", "isLetter", "(I)Z"⟩
abbrev k_M_isDigit : ByteArray := prog_7_method_10_code
def y_M_isDigit : MethodName := ⟨"WordShapesModel", "isDigit", "(I)Z"⟩
abbrev k_M_isSign : ByteArray := prog_7_method_11_code
def y_M_isSign : MethodName := ⟨"WordShapesModel", "isSign", "(I)Z"⟩
abbrev k_M_isKnown : ByteArray := prog_7_method_12_code
def y_M_isKnown : MethodName := ⟨"WordShapesModel", "isKnown", "(I)Z"⟩
abbrev k_M_here : ByteArray := prog_7_method_13_code
def y_M_here : MethodName := ⟨"WordShapesModel", "here", "()I"⟩
abbrev k_M_pass : ByteArray := prog_7_method_14_code
def y_M_pass : MethodName := ⟨"WordShapesModel", "pass", "()V"⟩
abbrev k_M_wrong : ByteArray := prog_7_method_15_code
def y_M_wrong : MethodName := ⟨"WordShapesModel", "wrong", "(II)Z"⟩
abbrev k_M_unexpected : ByteArray := prog_7_method_16_code
def y_M_unexpected : MethodName := ⟨"WordShapesModel", "unexpected", "()Z"⟩
abbrev k_M_word : ByteArray := prog_7_method_17_code
def y_M_word : MethodName := ⟨"WordShapesModel", "word", "()I"⟩
abbrev k_M_must : ByteArray := prog_7_method_18_code
def y_M_must : MethodName := ⟨"WordShapesModel", "must", "(I)Z"⟩
abbrev k_M_goesOn : ByteArray := prog_7_method_19_code
def y_M_goesOn : MethodName := ⟨"WordShapesModel", "goesOn", "()I"⟩
abbrev k_M_digitsFrom : ByteArray := prog_7_method_20_code
def y_M_digitsFrom : MethodName := ⟨"WordShapesModel", "digitsFrom", "()I"⟩
abbrev k_M_number : ByteArray := prog_7_method_21_code
def y_M_number : MethodName := ⟨"WordShapesModel", "number", "()Z"⟩
abbrev k_M_rounded : ByteArray := prog_7_method_22_code
def y_M_rounded : MethodName := ⟨"WordShapesModel", "rounded", "(IIJ)J"⟩
abbrev k_M_room : ByteArray := prog_7_method_23_code
def y_M_room : MethodName := ⟨"WordShapesModel", "room", "(II)Z"⟩
abbrev k_M_say : ByteArray := prog_7_method_24_code
def y_M_say : MethodName := ⟨"WordShapesModel", "say", "(I)V"⟩
abbrev k_M_open : ByteArray := prog_7_method_25_code
def y_M_open : MethodName := ⟨"WordShapesModel", "open", "(I)I"⟩
abbrev k_M_close : ByteArray := prog_7_method_26_code
def y_M_close : MethodName := ⟨"WordShapesModel", "close", "(II)V"⟩
abbrev k_M_coordinate : ByteArray := prog_7_method_27_code
def y_M_coordinate : MethodName := ⟨"WordShapesModel", "coordinate", "()Z"⟩
abbrev k_M_coordinates : ByteArray := prog_7_method_28_code
def y_M_coordinates : MethodName := ⟨"WordShapesModel", "coordinates", "()I"⟩
abbrev k_M_rings : ByteArray := prog_7_method_29_code
def y_M_rings : MethodName := ⟨"WordShapesModel", "rings", "()I"⟩
abbrev k_M_simple : ByteArray := prog_7_method_30_code
def y_M_simple : MethodName := ⟨"WordShapesModel", "simple", "(I)I"⟩
abbrev k_M_looked : ByteArray := prog_7_method_31_code
def y_M_looked : MethodName := ⟨"WordShapesModel", "looked", "(Z)I"⟩
abbrev k_M_parts : ByteArray := prog_7_method_32_code
def y_M_parts : MethodName := ⟨"WordShapesModel", "parts", "(I)I"⟩
abbrev k_M_shape : ByteArray := prog_7_method_33_code
def y_M_shape : MethodName := ⟨"WordShapesModel", "shape", "(I)I"⟩
abbrev k_M_readAll : ByteArray := prog_7_method_34_code
def y_M_readAll : MethodName := ⟨"WordShapesModel", "readAll", "()Z"⟩
abbrev k_M_read : ByteArray := prog_7_method_35_code
def y_M_read : MethodName := ⟨"WordShapesModel", "read", "(I)I"⟩
abbrev k_M_fault : ByteArray := prog_7_method_36_code
def y_M_fault : MethodName := ⟨"WordShapesModel", "fault", "(I)I"⟩
abbrev k_M_put : ByteArray := prog_7_method_37_code
def y_M_put : MethodName := ⟨"WordShapesModel", "put", "(I)V"⟩
abbrev k_M_putWord : ByteArray := prog_7_method_38_code
def y_M_putWord : MethodName := ⟨"WordShapesModel", "putWord", "(I)V"⟩
abbrev k_M_ten : ByteArray := prog_7_method_39_code
def y_M_ten : MethodName := ⟨"WordShapesModel", "ten", "(I)I"⟩
abbrev k_M_putNumber : ByteArray := prog_7_method_40_code
def y_M_putNumber : MethodName := ⟨"WordShapesModel", "putNumber", "(I)V"⟩
abbrev k_M_putBetween : ByteArray := prog_7_method_41_code
def y_M_putBetween : MethodName := ⟨"WordShapesModel", "putBetween", "()V"⟩
abbrev k_M_putPoints : ByteArray := prog_7_method_42_code
def y_M_putPoints : MethodName := ⟨"WordShapesModel", "putPoints", "(III)V"⟩
abbrev k_M_putAll : ByteArray := prog_7_method_43_code
def y_M_putAll : MethodName := ⟨"WordShapesModel", "putAll", "(I)V"⟩
abbrev k_M_write : ByteArray := prog_7_method_44_code
def y_M_write : MethodName := ⟨"WordShapesModel", "write", "(I)I"⟩
abbrev k_M_again : ByteArray := prog_7_method_45_code
def y_M_again : MethodName := ⟨"WordShapesModel", "again", "()I"⟩
abbrev k_M_same : ByteArray := prog_7_method_46_code
def y_M_same : MethodName := ⟨"WordShapesModel", "same", "(II)Z"⟩
abbrev k_M_plan : ByteArray := prog_7_method_47_code
def y_M_plan : MethodName := ⟨"WordShapesModel", "plan", "(II)I"⟩
abbrev k_M_ordinate : ByteArray := prog_7_method_48_code
def y_M_ordinate : MethodName := ⟨"WordShapesModel", "ordinate", "(III)I"⟩
abbrev k_M_byteAt : ByteArray := prog_7_method_49_code
def y_M_byteAt : MethodName := ⟨"WordShapesModel", "byteAt", "(I)I"⟩
abbrev k_M_count : ByteArray := prog_7_method_50_code
def y_M_count : MethodName := ⟨"WordShapesModel", "count", "(II)I"⟩
abbrev k_B_init : ByteArray := prog_2_method_1_code
def y_B_init : MethodName := ⟨"WordShapes$Brackets", "<init>", "()V"⟩
abbrev k_B_start : ByteArray := prog_2_method_2_code
def y_B_start : MethodName := ⟨"WordShapes$Brackets", "start", "(I)V"⟩
abbrev k_B_open : ByteArray := prog_2_method_3_code
def y_B_open : MethodName := ⟨"WordShapes$Brackets", "open", "(II)V"⟩
abbrev k_B_close : ByteArray := prog_2_method_4_code
def y_B_close : MethodName := ⟨"WordShapes$Brackets", "close", "()V"⟩
abbrev k_B_kind : ByteArray := prog_2_method_5_code
def y_B_kind : MethodName := ⟨"WordShapes$Brackets", "kind", "()I"⟩
abbrev k_B_number : ByteArray := prog_2_method_6_code
def y_B_number : MethodName := ⟨"WordShapes$Brackets", "number", "()I"⟩
abbrev k_B_lessOne : ByteArray := prog_2_method_7_code
def y_B_lessOne : MethodName := ⟨"WordShapes$Brackets", "lessOne", "()V"⟩
abbrev k_R_init : ByteArray := prog_3_method_1_code
def y_R_init : MethodName := ⟨"WordShapes$Reader", "<init>", "([BILWordShapes$Shape;)V"⟩
abbrev k_R_readText : ByteArray := prog_3_method_2_code
def y_R_readText : MethodName := ⟨"WordShapes$Reader", "readText", "(I)V"⟩
abbrev k_R_opensItem : ByteArray := prog_3_method_3_code
def y_R_opensItem : MethodName := ⟨"WordShapes$Reader", "opensItem", "()Z"⟩
abbrev k_R_goesOn : ByteArray := prog_3_method_4_code
def y_R_goesOn : MethodName := ⟨"WordShapes$Reader", "goesOn", "()Z"⟩
abbrev k_R_readKind : ByteArray := prog_3_method_5_code
def y_R_readKind : MethodName := ⟨"WordShapes$Reader", "readKind", "()I"⟩
abbrev k_R_keepKind : ByteArray := prog_3_method_6_code
def y_R_keepKind : MethodName := ⟨"WordShapes$Reader", "keepKind", "(I)V"⟩
abbrev k_R_opensBracket : ByteArray := prog_3_method_7_code
def y_R_opensBracket : MethodName := ⟨"WordShapes$Reader", "opensBracket", "(I)Z"⟩
abbrev k_R_opensRing : ByteArray := prog_3_method_8_code
def y_R_opensRing : MethodName := ⟨"WordShapes$Reader", "opensRing", "()Z"⟩
abbrev k_R_readPoint : ByteArray := prog_3_method_9_code
def y_R_readPoint : MethodName := ⟨"WordShapes$Reader", "readPoint", "()V"⟩
abbrev k_R_readNumber : ByteArray := prog_3_method_10_code
def y_R_readNumber : MethodName := ⟨"WordShapes$Reader", "readNumber", "()I"⟩
abbrev k_R_readExponent : ByteArray := prog_3_method_11_code
def y_R_readExponent : MethodName := ⟨"WordShapes$Reader", "readExponent", "(I)I"⟩
abbrev k_R_roundedUnits : ByteArray := prog_3_method_12_code
def y_R_roundedUnits : MethodName := ⟨"WordShapes$Reader", "roundedUnits", "(III)J"⟩
abbrev k_R_tenfold : ByteArray := prog_3_method_13_code
def y_R_tenfold : MethodName := ⟨"WordShapes$Reader", "tenfold", "(J)J"⟩
abbrev k_R_kindFrom : ByteArray := prog_3_method_14_code
def y_R_kindFrom : MethodName := ⟨"WordShapes$Reader", "kindFrom", "(I)I"⟩
abbrev k_R_passEmpty : ByteArray := prog_3_method_15_code
def y_R_passEmpty : MethodName := ⟨"WordShapes$Reader", "passEmpty", "()V"⟩
abbrev k_R_isWord : ByteArray := prog_3_method_16_code
def y_R_isWord : MethodName := ⟨"WordShapes$Reader", "isWord", "(ILjava/lang/String;)Z"⟩
abbrev k_R_pass : ByteArray := prog_3_method_17_code
def y_R_pass : MethodName := ⟨"WordShapes$Reader", "pass", "(I)V"⟩
abbrev k_R_passSign : ByteArray := prog_3_method_18_code
def y_R_passSign : MethodName := ⟨"WordShapes$Reader", "passSign", "()V"⟩
abbrev k_R_passDigits : ByteArray := prog_3_method_19_code
def y_R_passDigits : MethodName := ⟨"WordShapes$Reader", "passDigits", "()I"⟩
abbrev k_R_passLetters : ByteArray := prog_3_method_20_code
def y_R_passLetters : MethodName := ⟨"WordShapes$Reader", "passLetters", "()V"⟩
abbrev k_R_skipBlanks : ByteArray := prog_3_method_21_code
def y_R_skipBlanks : MethodName := ⟨"WordShapes$Reader", "skipBlanks", "()V"⟩
abbrev k_R_here : ByteArray := prog_3_method_22_code
def y_R_here : MethodName := ⟨"WordShapes$Reader", "here", "()I"⟩
abbrev k_R_failHere : ByteArray := prog_3_method_23_code
def y_R_failHere : MethodName := ⟨"WordShapes$Reader", "failHere", "()V"⟩
abbrev k_R_fail : ByteArray := prog_3_method_24_code
def y_R_fail : MethodName := ⟨"WordShapes$Reader", "fail", "(II)V"⟩
abbrev k_R_isBlank : ByteArray := prog_3_method_25_code
def y_R_isBlank : MethodName := ⟨"WordShapes$Reader", "isBlank", "(I)Z"⟩
abbrev k_R_isLetter : ByteArray := prog_3_method_26_code
def y_R_isLetter : MethodName := ⟨"WordShapes$Reader", "isLetter", "(I)Z"⟩
abbrev k_R_isDigit : ByteArray := prog_3_method_27_code
def y_R_isDigit : MethodName := ⟨"WordShapes$Reader", "isDigit", "(I)Z"⟩
abbrev k_R_beginsNumber : ByteArray := prog_3_method_28_code
def y_R_beginsNumber : MethodName := ⟨"WordShapes$Reader", "beginsNumber", "(I)Z"⟩
abbrev k_S_init : ByteArray := prog_4_method_1_code
def y_S_init : MethodName := ⟨"WordShapes$Shape", "<init>", "(II)V"⟩
abbrev k_S_clear : ByteArray := prog_4_method_2_code
def y_S_clear : MethodName := ⟨"WordShapes$Shape", "clear", "()V"⟩
abbrev k_S_isNone : ByteArray := prog_4_method_3_code
def y_S_isNone : MethodName := ⟨"WordShapes$Shape", "isNone", "()Z"⟩
abbrev k_S_hasRoomFor : ByteArray := prog_4_method_4_code
def y_S_hasRoomFor : MethodName := ⟨"WordShapes$Shape", "hasRoomFor", "(I)Z"⟩
abbrev k_S_hasRoomForPoint : ByteArray := prog_4_method_5_code
def y_S_hasRoomForPoint : MethodName := ⟨"WordShapes$Shape", "hasRoomForPoint", "()Z"⟩
abbrev k_S_addNumber : ByteArray := prog_4_method_6_code
def y_S_addNumber : MethodName := ⟨"WordShapes$Shape", "addNumber", "(I)V"⟩
abbrev k_S_addPoint : ByteArray := prog_4_method_7_code
def y_S_addPoint : MethodName := ⟨"WordShapes$Shape", "addPoint", "(II)V"⟩
abbrev k_S_addOneAt : ByteArray := prog_4_method_8_code
def y_S_addOneAt : MethodName := ⟨"WordShapes$Shape", "addOneAt", "(I)V"⟩
abbrev k_S_numberAt : ByteArray := prog_4_method_9_code
def y_S_numberAt : MethodName := ⟨"WordShapes$Shape", "numberAt", "(I)I"⟩
abbrev k_S_ordinateAt : ByteArray := prog_4_method_10_code
def y_S_ordinateAt : MethodName := ⟨"WordShapes$Shape", "ordinateAt", "(II)I"⟩
abbrev k_S_takeFrom : ByteArray := prog_4_method_11_code
def y_S_takeFrom : MethodName := ⟨"WordShapes$Shape", "takeFrom", "(LWordShapes$Shape;)V"⟩
abbrev k_S_isLike : ByteArray := prog_4_method_12_code
def y_S_isLike : MethodName := ⟨"WordShapes$Shape", "isLike", "(LWordShapes$Shape;)Z"⟩
abbrev k_T_init : ByteArray := prog_5_method_1_code
def y_T_init : MethodName := ⟨"WordShapes$Writer", "<init>", "(I)V"⟩
abbrev k_T_lay : ByteArray := prog_5_method_2_code
def y_T_lay : MethodName := ⟨"WordShapes$Writer", "lay", "(LWordShapes$Shape;Z)I"⟩
abbrev k_T_layItem : ByteArray := prog_5_method_3_code
def y_T_layItem : MethodName := ⟨"WordShapes$Writer", "layItem", "(LWordShapes$Shape;)V"⟩
abbrev k_T_takeNumber : ByteArray := prog_5_method_4_code
def y_T_takeNumber : MethodName := ⟨"WordShapes$Writer", "takeNumber", "(LWordShapes$Shape;)I"⟩
abbrev k_T_layBody : ByteArray := prog_5_method_5_code
def y_T_layBody : MethodName := ⟨"WordShapes$Writer", "layBody", "(II)V"⟩
abbrev k_T_layPoint : ByteArray := prog_5_method_6_code
def y_T_layPoint : MethodName := ⟨"WordShapes$Writer", "layPoint", "(LWordShapes$Shape;)V"⟩
abbrev k_T_layNumber : ByteArray := prog_5_method_7_code
def y_T_layNumber : MethodName := ⟨"WordShapes$Writer", "layNumber", "(I)V"⟩
abbrev k_T_layWord : ByteArray := prog_5_method_8_code
def y_T_layWord : MethodName := ⟨"WordShapes$Writer", "layWord", "(Ljava/lang/String;)V"⟩
abbrev k_T_put : ByteArray := prog_5_method_9_code
def y_T_put : MethodName := ⟨"WordShapes$Writer", "put", "(I)V"⟩
abbrev k_L_cell : ByteArray := method_2_code
def y_L_cell : MethodName := ⟨"WordShapesLaw", "cell", "([II)I"⟩
abbrev k_L_feed : ByteArray := method_3_code
def y_L_feed : MethodName := ⟨"WordShapesLaw", "feed", "(LWordShapes;IIIII[J)I"⟩
abbrev k_L_end : ByteArray := method_4_code
def y_L_end : MethodName := ⟨"WordShapesLaw", "end", "(LWordShapes;I[J)I"⟩
abbrev k_L_read : ByteArray := method_5_code
def y_L_read : MethodName := ⟨"WordShapesLaw", "read", "(LWordShapes;I[J)I"⟩
abbrev k_L_fault : ByteArray := method_6_code
def y_L_fault : MethodName := ⟨"WordShapesLaw", "fault", "(LWordShapes;I[J)I"⟩
abbrev k_L_write : ByteArray := method_7_code
def y_L_write : MethodName := ⟨"WordShapesLaw", "write", "(LWordShapes;I[J)I"⟩
abbrev k_L_same : ByteArray := method_8_code
def y_L_same : MethodName := ⟨"WordShapesLaw", "same", "(LWordShapes;II[J)I"⟩
abbrev k_L_plan : ByteArray := method_9_code
def y_L_plan : MethodName := ⟨"WordShapesLaw", "plan", "(LWordShapes;II[J)I"⟩
abbrev k_L_ordinate : ByteArray := method_10_code
def y_L_ordinate : MethodName := ⟨"WordShapesLaw", "ordinate", "(LWordShapes;III[J)I"⟩
abbrev k_L_byteAt : ByteArray := method_11_code
def y_L_byteAt : MethodName := ⟨"WordShapesLaw", "byteAt", "(LWordShapes;I[J)I"⟩
abbrev k_L_count : ByteArray := method_12_code
def y_L_count : MethodName := ⟨"WordShapesLaw", "count", "(LWordShapes;II[J)I"⟩
abbrev k_JObject_init : ByteArray := object_method_1_code
def y_JObject_init : MethodName := ⟨"java/lang/Object", "<init>", "()V"⟩
abbrev k_JException_init : ByteArray := prog_8_method_2_code
def y_JException_init : MethodName := ⟨"java/lang/Exception", "<init>", "(Ljava/lang/String;)V"⟩
abbrev k_JIllegalArgumentException_init : ByteArray := prog_9_method_2_code
def y_JIllegalArgumentException_init : MethodName := ⟨"java/lang/IllegalArgumentException", "<init>", "(Ljava/lang/String;)V"⟩
abbrev k_JIllegalStateException_init : ByteArray := prog_10_method_2_code
def y_JIllegalStateException_init : MethodName := ⟨"java/lang/IllegalStateException", "<init>", "(Ljava/lang/String;)V"⟩
abbrev k_JIndexOutOfBoundsException_init : ByteArray := prog_11_method_2_code
def y_JIndexOutOfBoundsException_init : MethodName := ⟨"java/lang/IndexOutOfBoundsException", "<init>", "(Ljava/lang/String;)V"⟩
abbrev k_JMath_max : ByteArray := prog_12_method_65_code
def y_JMath_max : MethodName := ⟨"java/lang/Math", "max", "(II)I"⟩
abbrev k_JMath_min : ByteArray := prog_12_method_69_code
def y_JMath_min : MethodName := ⟨"java/lang/Math", "min", "(II)I"⟩
abbrev k_JRuntimeException_init : ByteArray := prog_13_method_2_code
def y_JRuntimeException_init : MethodName := ⟨"java/lang/RuntimeException", "<init>", "(Ljava/lang/String;)V"⟩
abbrev k_JString_charAt : ByteArray := prog_14_method_56_code
def y_JString_charAt : MethodName := ⟨"java/lang/String", "charAt", "(I)C"⟩
abbrev k_JString_checkIndex : ByteArray := prog_14_method_155_code
def y_JString_checkIndex : MethodName := ⟨"java/lang/String", "checkIndex", "(II)V"⟩
abbrev k_JString_coder : ByteArray := prog_14_method_152_code
def y_JString_coder : MethodName := ⟨"java/lang/String", "coder", "()B"⟩
abbrev k_JString_isLatin1 : ByteArray := prog_14_method_154_code
def y_JString_isLatin1 : MethodName := ⟨"java/lang/String", "isLatin1", "()Z"⟩
abbrev k_JString_length : ByteArray := prog_14_method_54_code
def y_JString_length : MethodName := ⟨"java/lang/String", "length", "()I"⟩
abbrev k_JStringLatin1_charAt : ByteArray := prog_15_method_2_code
def y_JStringLatin1_charAt : MethodName := ⟨"java/lang/StringLatin1", "charAt", "([BI)C"⟩
abbrev k_JStringUTF16_charAt : ByteArray := prog_16_method_83_code
def y_JStringUTF16_charAt : MethodName := ⟨"java/lang/StringUTF16", "charAt", "([BI)C"⟩
abbrev k_JStringUTF16_checkIndex : ByteArray := prog_16_method_91_code
def y_JStringUTF16_checkIndex : MethodName := ⟨"java/lang/StringUTF16", "checkIndex", "(I[B)V"⟩
abbrev k_JStringUTF16_getChar : ByteArray := prog_16_method_5_code
def y_JStringUTF16_getChar : MethodName := ⟨"java/lang/StringUTF16", "getChar", "([BI)C"⟩
abbrev k_JStringUTF16_length : ByteArray := prog_16_method_6_code
def y_JStringUTF16_length : MethodName := ⟨"java/lang/StringUTF16", "length", "([B)I"⟩
abbrev k_JThrowable_init : ByteArray := prog_18_method_2_code
def y_JThrowable_init : MethodName := ⟨"java/lang/Throwable", "<init>", "(Ljava/lang/String;)V"⟩
abbrev k_JThrowable_fillInStackTrace : ByteArray := prog_18_method_18_code
def y_JThrowable_fillInStackTrace : MethodName := ⟨"java/lang/Throwable", "fillInStackTrace", "()Ljava/lang/Throwable;"⟩
abbrev k_JUnsupportedOperationException_init : ByteArray := prog_19_method_2_code
def y_JUnsupportedOperationException_init : MethodName := ⟨"java/lang/UnsupportedOperationException", "<init>", "(Ljava/lang/String;)V"⟩
abbrev k_L_law : ByteArray := code
/-- the words of the tables that stay true in warmer tables -/
def GT : List Cond := lw_tbl.filter goodWord
theorem gt_t {w : Cond} (i : Nat) (h : tables_1[i]? = some w) (g : goodWord w = true) : w ∈ GT := List.mem_filter.mpr ⟨List.mem_append_right _ (List.mem_of_getElem? h), g⟩
theorem gt_m {w : Cond} (h : w ∈ tables_1) (g : goodWord w = true) : w ∈ GT := List.mem_filter.mpr ⟨List.mem_append_right _ h, g⟩
theorem gt_s {w : Cond} (i : Nat) (h : (k2_sels lw_privs)[i]? = some w) (g : goodWord w = true) : w ∈ GT := List.mem_filter.mpr ⟨List.mem_append_left _ (List.mem_of_getElem? h), g⟩
theorem gt_good {w : Cond} (h : w ∈ GT) : (w.onTables && w.keeps) = true ∨ ∃ ty, w = .arrayClass ty := good_of_word (List.mem_filter.mp h).2
theorem gt_in : GoodIn GT GT := fun w h => ⟨h, gt_good h⟩
theorem gt_lw {args : Array Value} {s : State} (h : ∀ w ∈ lw_tbl, w.before args s = true) : ∀ w ∈ GT, w.before args s = true := fun w hw => h w (List.mem_filter.mp hw).1
theorem tk_0 : (Jvm.Cond.initialized "WordShapesLaw") ∈ GT := gt_t 0 (by decide +kernel) (by decide +kernel)
theorem tk_1 : (Jvm.Cond.initialized "WordShapes") ∈ GT := gt_t 1 (by decide +kernel) (by decide +kernel)
theorem tk_2 : (Jvm.Cond.initialized "java/lang/Math") ∈ GT := gt_t 2 (by decide +kernel) (by decide +kernel)
theorem tk_3 : (Jvm.Cond.initialized "WordShapes$Shape") ∈ GT := gt_t 3 (by decide +kernel) (by decide +kernel)
theorem tk_4 : (Jvm.Cond.initialized "WordShapes$Reader") ∈ GT := gt_t 4 (by decide +kernel) (by decide +kernel)
theorem tk_5 : (Jvm.Cond.initialized "WordShapes$Brackets") ∈ GT := gt_t 5 (by decide +kernel) (by decide +kernel)
theorem tk_6 : (Jvm.Cond.initialized "WordShapes$Writer") ∈ GT := gt_t 6 (by decide +kernel) (by decide +kernel)
theorem tk_7 : (Jvm.Cond.initialized "WordShapesModel") ∈ GT := gt_t 7 (by decide +kernel) (by decide +kernel)
theorem tk_8 : (Jvm.Cond.initialized "java/lang/Throwable") ∈ GT := gt_t 8 (by decide +kernel) (by decide +kernel)
theorem tk_9 : (Jvm.Cond.initialized "java/lang/Exception") ∈ GT := gt_t 9 (by decide +kernel) (by decide +kernel)
theorem tk_10 : (Jvm.Cond.initialized "java/lang/RuntimeException") ∈ GT := gt_t 10 (by decide +kernel) (by decide +kernel)
theorem tk_11 : (Jvm.Cond.initialized "java/lang/IllegalStateException") ∈ GT := gt_t 11 (by decide +kernel) (by decide +kernel)
theorem tk_12 : (Jvm.Cond.initialized "java/lang/IllegalArgumentException") ∈ GT := gt_t 12 (by decide +kernel) (by decide +kernel)
theorem tk_13 : (Jvm.Cond.initialized "java/lang/IndexOutOfBoundsException") ∈ GT := gt_t 13 (by decide +kernel) (by decide +kernel)
theorem tk_14 : (Jvm.Cond.initialized "java/lang/String") ∈ GT := gt_t 14 (by decide +kernel) (by decide +kernel)
theorem tk_15 : (Jvm.Cond.initialized "java/lang/StringLatin1") ∈ GT := gt_t 15 (by decide +kernel) (by decide +kernel)
theorem tk_16 : (Jvm.Cond.initialized "jdk/internal/util/Preconditions") ∈ GT := gt_t 16 (by decide +kernel) (by decide +kernel)
theorem tk_17 : (Jvm.Cond.initialized "java/lang/StringUTF16") ∈ GT := gt_t 17 (by decide +kernel) (by decide +kernel)
theorem tk_18 : (Jvm.Cond.initialized "java/lang/UnsupportedOperationException") ∈ GT := gt_t 18 (by decide +kernel) (by decide +kernel)
theorem tk_19 : (Jvm.Cond.initialized "java/lang/System") ∈ GT := gt_t 19 (by decide +kernel) (by decide +kernel)
theorem tk_20 : (Jvm.Cond.classLink "WordShapesLaw" 8 "WordShapes") ∈ GT := gt_t 20 (by decide +kernel) (by decide +kernel)
theorem tk_21 : (Jvm.Cond.instantiable "WordShapes" 5) ∈ GT := gt_t 21 (by decide +kernel) (by decide +kernel)
theorem tk_22 : (Jvm.Cond.methodLink "WordShapesLaw" 58 y_W_init) ∈ GT := gt_t 22 (by decide +kernel) (by decide +kernel)
theorem tk_23 : (Jvm.Cond.instanceMethod y_W_init) ∈ GT := gt_t 23 (by decide +kernel) (by decide +kernel)
set_option maxRecDepth 20000 in
theorem tk_24 : (Jvm.Cond.code y_W_init prog_1_method_1_code 8 (Option.none : Option Jvm.ClassFile.FieldType)) ∈ GT := gt_m (List.mem_append_left _ (List.mem_of_getElem? (i := 24) rfl)) rfl
theorem tk_25 : (Jvm.Cond.methodLink "WordShapes" 3 y_JObject_init) ∈ GT := gt_t 25 (by decide +kernel) (by decide +kernel)
theorem tk_26 : (Jvm.Cond.instanceMethod y_JObject_init) ∈ GT := gt_t 26 (by decide +kernel) (by decide +kernel)
set_option maxRecDepth 20000 in
theorem tk_27 : (Jvm.Cond.code y_JObject_init object_method_1_code 1 (Option.none : Option Jvm.ClassFile.FieldType)) ∈ GT := gt_m (List.mem_append_left _ (List.mem_of_getElem? (i := 27) rfl)) rfl
theorem tk_28 : (Jvm.Cond.classLink "WordShapes" 9 "WordShapes$Shape") ∈ GT := gt_t 28 (by decide +kernel) (by decide +kernel)
theorem tq_29 : (Jvm.Cond.arrayOver (Jvm.ClassFile.FieldType.object "WordShapes$Shape")) ∈ tables_1 := List.mem_of_getElem? (i := 29) (by decide +kernel)
theorem tk_30 : (Jvm.Cond.methodLink "WordShapes" 15 y_JMath_min) ∈ GT := gt_t 30 (by decide +kernel) (by decide +kernel)
theorem tk_31 : (Jvm.Cond.static y_JMath_min) ∈ GT := gt_t 31 (by decide +kernel) (by decide +kernel)
set_option maxRecDepth 20000 in
theorem tk_32 : (Jvm.Cond.code y_JMath_min prog_12_method_69_code 2 (Option.some Jvm.ClassFile.FieldType.int)) ∈ GT := gt_m (List.mem_append_left _ (List.mem_of_getElem? (i := 32) rfl)) rfl
theorem tk_33 : (Jvm.Cond.methodLink "WordShapes" 21 y_JMath_max) ∈ GT := gt_t 33 (by decide +kernel) (by decide +kernel)
theorem tk_34 : (Jvm.Cond.static y_JMath_max) ∈ GT := gt_t 34 (by decide +kernel) (by decide +kernel)
set_option maxRecDepth 20000 in
theorem tk_35 : (Jvm.Cond.code y_JMath_max prog_12_method_65_code 2 (Option.some Jvm.ClassFile.FieldType.int)) ∈ GT := gt_m (List.mem_append_left _ (List.mem_of_getElem? (i := 35) rfl)) rfl
theorem tk_36 : (Jvm.Cond.instantiable "WordShapes$Shape" 4) ∈ GT := gt_t 36 (by decide +kernel) (by decide +kernel)
theorem tk_37 : (Jvm.Cond.methodLink "WordShapes" 24 y_S_init) ∈ GT := gt_t 37 (by decide +kernel) (by decide +kernel)
theorem tk_38 : (Jvm.Cond.instanceMethod y_S_init) ∈ GT := gt_t 38 (by decide +kernel) (by decide +kernel)
set_option maxRecDepth 20000 in
theorem tk_39 : (Jvm.Cond.code y_S_init prog_4_method_1_code 3 (Option.none : Option Jvm.ClassFile.FieldType)) ∈ GT := gt_m (List.mem_append_left _ (List.mem_of_getElem? (i := 39) rfl)) rfl
theorem tk_40 : (Jvm.Cond.methodLink "WordShapes$Shape" 1 y_JObject_init) ∈ GT := gt_t 40 (by decide +kernel) (by decide +kernel)
theorem tk_41 : (Jvm.Cond.fieldLink "WordShapes$Shape" 7 "WordShapes$Shape" "plan" "[I") ∈ GT := gt_t 41 (by decide +kernel) (by decide +kernel)
theorem tk_42 : (Jvm.Cond.fieldLink "WordShapes$Shape" 13 "WordShapes$Shape" "ordinates" "[I") ∈ GT := gt_t 42 (by decide +kernel) (by decide +kernel)
theorem tk_43 : (Jvm.Cond.fieldLink "WordShapes$Shape" 16 "WordShapes$Shape" "numbers" "I") ∈ GT := gt_t 43 (by decide +kernel) (by decide +kernel)
theorem tq_44 : (Jvm.Cond.fieldLinkNest "WordShapes$Writer" 51 "WordShapes$Shape" "numbers" "I" "WordShapes") ∈ tables_1 := List.mem_of_getElem? (i := 44) (by decide +kernel)
theorem tq_45 : (Jvm.Cond.fieldLinkNest "WordShapes$Reader" 97 "WordShapes$Shape" "numbers" "I" "WordShapes") ∈ tables_1 := List.mem_of_getElem? (i := 45) (by decide +kernel)
theorem tq_46 : (Jvm.Cond.fieldLinkNest "WordShapes" 137 "WordShapes$Shape" "numbers" "I" "WordShapes") ∈ tables_1 := List.mem_of_getElem? (i := 46) (by decide +kernel)
theorem tk_47 : (Jvm.Cond.fieldLink "WordShapes$Shape" 20 "WordShapes$Shape" "points" "I") ∈ GT := gt_t 47 (by decide +kernel) (by decide +kernel)
theorem tq_48 : (Jvm.Cond.fieldLinkNest "WordShapes$Writer" 56 "WordShapes$Shape" "points" "I" "WordShapes") ∈ tables_1 := List.mem_of_getElem? (i := 48) (by decide +kernel)
theorem tq_49 : (Jvm.Cond.fieldLinkNest "WordShapes" 142 "WordShapes$Shape" "points" "I" "WordShapes") ∈ tables_1 := List.mem_of_getElem? (i := 49) (by decide +kernel)
theorem tk_50 : (Jvm.Cond.laysFinal "WordShapes$Shape" "WordShapes$Shape" "plan" "[I") ∈ GT := gt_t 50 (by decide +kernel) (by decide +kernel)
theorem tk_52 : (Jvm.Cond.laysFinal "WordShapes$Shape" "WordShapes$Shape" "ordinates" "[I") ∈ GT := gt_t 52 (by decide +kernel) (by decide +kernel)
theorem tk_54 : (Jvm.Cond.lays "WordShapes$Shape" "WordShapes$Shape" "numbers" "I") ∈ GT := gt_t 54 (by decide +kernel) (by decide +kernel)
theorem tk_56 : (Jvm.Cond.lays "WordShapes$Shape" "WordShapes$Shape" "points" "I") ∈ GT := gt_t 56 (by decide +kernel) (by decide +kernel)
theorem tk_59 : (Jvm.Cond.arrayClass Jvm.ClassFile.FieldType.int) ∈ GT := gt_t 59 (by decide +kernel) (by decide +kernel)
theorem tk_60 : (Jvm.Cond.constant "WordShapes" 27 (65536 : Int32)) ∈ GT := gt_t 60 (by decide +kernel) (by decide +kernel)
theorem tk_61 : (Jvm.Cond.classLink "WordShapes" 32 "WordShapes$Reader") ∈ GT := gt_t 61 (by decide +kernel) (by decide +kernel)
theorem tk_62 : (Jvm.Cond.instantiable "WordShapes$Reader" 8) ∈ GT := gt_t 62 (by decide +kernel) (by decide +kernel)
theorem tk_63 : (Jvm.Cond.methodLink "WordShapes" 34 y_R_init) ∈ GT := gt_t 63 (by decide +kernel) (by decide +kernel)
theorem tk_64 : (Jvm.Cond.instanceMethod y_R_init) ∈ GT := gt_t 64 (by decide +kernel) (by decide +kernel)
set_option maxRecDepth 20000 in
theorem tk_65 : (Jvm.Cond.code y_R_init prog_3_method_1_code 4 (Option.none : Option Jvm.ClassFile.FieldType)) ∈ GT := gt_m (List.mem_append_left _ (List.mem_of_getElem? (i := 65) rfl)) rfl
theorem tk_66 : (Jvm.Cond.methodLink "WordShapes$Reader" 3 y_JObject_init) ∈ GT := gt_t 66 (by decide +kernel) (by decide +kernel)
theorem tk_67 : (Jvm.Cond.classLink "WordShapes$Reader" 9 "WordShapes$Brackets") ∈ GT := gt_t 67 (by decide +kernel) (by decide +kernel)
theorem tk_68 : (Jvm.Cond.instantiable "WordShapes$Brackets" 3) ∈ GT := gt_t 68 (by decide +kernel) (by decide +kernel)
theorem tq_69 : (Jvm.Cond.methodLinkNest "WordShapes$Reader" 11 y_B_init "WordShapes") ∈ tables_1 := List.mem_of_getElem? (i := 69) (by decide +kernel)
theorem tk_70 : (Jvm.Cond.instanceMethod y_B_init) ∈ GT := gt_t 70 (by decide +kernel) (by decide +kernel)
set_option maxRecDepth 20000 in
theorem tk_71 : (Jvm.Cond.code y_B_init prog_2_method_1_code 1 (Option.none : Option Jvm.ClassFile.FieldType)) ∈ GT := gt_m (List.mem_append_left _ (List.mem_of_getElem? (i := 71) rfl)) rfl
theorem tk_72 : (Jvm.Cond.methodLink "WordShapes$Brackets" 3 y_JObject_init) ∈ GT := gt_t 72 (by decide +kernel) (by decide +kernel)
theorem tk_73 : (Jvm.Cond.fieldLink "WordShapes$Brackets" 9 "WordShapes$Brackets" "kinds" "[I") ∈ GT := gt_t 73 (by decide +kernel) (by decide +kernel)
theorem tk_74 : (Jvm.Cond.fieldLink "WordShapes$Brackets" 15 "WordShapes$Brackets" "numbers" "[I") ∈ GT := gt_t 74 (by decide +kernel) (by decide +kernel)
theorem tk_75 : (Jvm.Cond.fieldLink "WordShapes$Brackets" 18 "WordShapes$Brackets" "top" "I") ∈ GT := gt_t 75 (by decide +kernel) (by decide +kernel)
theorem tq_76 : (Jvm.Cond.fieldLinkNest "WordShapes$Writer" 59 "WordShapes$Brackets" "top" "I" "WordShapes") ∈ tables_1 := List.mem_of_getElem? (i := 76) (by decide +kernel)
theorem tq_77 : (Jvm.Cond.fieldLinkNest "WordShapes$Reader" 106 "WordShapes$Brackets" "top" "I" "WordShapes") ∈ tables_1 := List.mem_of_getElem? (i := 77) (by decide +kernel)
theorem tk_78 : (Jvm.Cond.laysFinal "WordShapes$Brackets" "WordShapes$Brackets" "kinds" "[I") ∈ GT := gt_t 78 (by decide +kernel) (by decide +kernel)
theorem tk_80 : (Jvm.Cond.laysFinal "WordShapes$Brackets" "WordShapes$Brackets" "numbers" "[I") ∈ GT := gt_t 80 (by decide +kernel) (by decide +kernel)
theorem tk_82 : (Jvm.Cond.lays "WordShapes$Brackets" "WordShapes$Brackets" "top" "I") ∈ GT := gt_t 82 (by decide +kernel) (by decide +kernel)
theorem tk_85 : (Jvm.Cond.arrayClass Jvm.ClassFile.FieldType.byte) ∈ GT := gt_t 85 (by decide +kernel) (by decide +kernel)
theorem tk_86 : (Jvm.Cond.fieldLink "WordShapes$Reader" 18 "WordShapes$Reader" "text" "[B") ∈ GT := gt_t 86 (by decide +kernel) (by decide +kernel)
theorem tk_87 : (Jvm.Cond.fieldLink "WordShapes$Reader" 22 "WordShapes$Reader" "digits" "I") ∈ GT := gt_t 87 (by decide +kernel) (by decide +kernel)
theorem tk_88 : (Jvm.Cond.fieldLink "WordShapes$Reader" 26 "WordShapes$Reader" "draft" "LWordShapes$Shape;") ∈ GT := gt_t 88 (by decide +kernel) (by decide +kernel)
theorem tq_89 : (Jvm.Cond.fieldLinkNest "WordShapes" 82 "WordShapes$Reader" "draft" "LWordShapes$Shape;" "WordShapes") ∈ tables_1 := List.mem_of_getElem? (i := 89) (by decide +kernel)
theorem tk_90 : (Jvm.Cond.fieldLink "WordShapes$Reader" 12 "WordShapes$Reader" "open" "LWordShapes$Brackets;") ∈ GT := gt_t 90 (by decide +kernel) (by decide +kernel)
theorem tk_91 : (Jvm.Cond.fieldLink "WordShapes$Reader" 36 "WordShapes$Reader" "length" "I") ∈ GT := gt_t 91 (by decide +kernel) (by decide +kernel)
theorem tk_92 : (Jvm.Cond.fieldLink "WordShapes$Reader" 39 "WordShapes$Reader" "place" "I") ∈ GT := gt_t 92 (by decide +kernel) (by decide +kernel)
theorem tk_93 : (Jvm.Cond.fieldLink "WordShapes$Reader" 42 "WordShapes$Reader" "faultKind" "I") ∈ GT := gt_t 93 (by decide +kernel) (by decide +kernel)
theorem tq_94 : (Jvm.Cond.fieldLinkNest "WordShapes" 94 "WordShapes$Reader" "faultKind" "I" "WordShapes") ∈ tables_1 := List.mem_of_getElem? (i := 94) (by decide +kernel)
theorem tk_95 : (Jvm.Cond.fieldLink "WordShapes$Reader" 45 "WordShapes$Reader" "faultPlace" "I") ∈ GT := gt_t 95 (by decide +kernel) (by decide +kernel)
theorem tq_96 : (Jvm.Cond.fieldLinkNest "WordShapes" 97 "WordShapes$Reader" "faultPlace" "I" "WordShapes") ∈ tables_1 := List.mem_of_getElem? (i := 96) (by decide +kernel)
theorem tk_97 : (Jvm.Cond.laysFinal "WordShapes$Reader" "WordShapes$Reader" "text" "[B") ∈ GT := gt_t 97 (by decide +kernel) (by decide +kernel)
theorem tk_99 : (Jvm.Cond.laysFinal "WordShapes$Reader" "WordShapes$Reader" "digits" "I") ∈ GT := gt_t 99 (by decide +kernel) (by decide +kernel)
theorem tk_101 : (Jvm.Cond.laysFinal "WordShapes$Reader" "WordShapes$Reader" "draft" "LWordShapes$Shape;") ∈ GT := gt_t 101 (by decide +kernel) (by decide +kernel)
theorem tk_103 : (Jvm.Cond.laysFinal "WordShapes$Reader" "WordShapes$Reader" "open" "LWordShapes$Brackets;") ∈ GT := gt_t 103 (by decide +kernel) (by decide +kernel)
theorem tk_105 : (Jvm.Cond.lays "WordShapes$Reader" "WordShapes$Reader" "length" "I") ∈ GT := gt_t 105 (by decide +kernel) (by decide +kernel)
theorem tk_107 : (Jvm.Cond.lays "WordShapes$Reader" "WordShapes$Reader" "place" "I") ∈ GT := gt_t 107 (by decide +kernel) (by decide +kernel)
theorem tk_109 : (Jvm.Cond.lays "WordShapes$Reader" "WordShapes$Reader" "faultKind" "I") ∈ GT := gt_t 109 (by decide +kernel) (by decide +kernel)
theorem tk_111 : (Jvm.Cond.lays "WordShapes$Reader" "WordShapes$Reader" "faultPlace" "I") ∈ GT := gt_t 111 (by decide +kernel) (by decide +kernel)
theorem tk_114 : (Jvm.Cond.classLink "WordShapes" 41 "WordShapes$Writer") ∈ GT := gt_t 114 (by decide +kernel) (by decide +kernel)
theorem tk_115 : (Jvm.Cond.instantiable "WordShapes$Writer" 10) ∈ GT := gt_t 115 (by decide +kernel) (by decide +kernel)
theorem tk_116 : (Jvm.Cond.methodLink "WordShapes" 43 y_T_init) ∈ GT := gt_t 116 (by decide +kernel) (by decide +kernel)
theorem tk_117 : (Jvm.Cond.instanceMethod y_T_init) ∈ GT := gt_t 117 (by decide +kernel) (by decide +kernel)
set_option maxRecDepth 20000 in
theorem tk_118 : (Jvm.Cond.code y_T_init prog_5_method_1_code 2 (Option.none : Option Jvm.ClassFile.FieldType)) ∈ GT := gt_m (List.mem_append_left _ (List.mem_of_getElem? (i := 118) rfl)) rfl
theorem tk_119 : (Jvm.Cond.methodLink "WordShapes$Writer" 3 y_JObject_init) ∈ GT := gt_t 119 (by decide +kernel) (by decide +kernel)
theorem tk_120 : (Jvm.Cond.constant "WordShapes$Writer" 9 (131072 : Int32)) ∈ GT := gt_t 120 (by decide +kernel) (by decide +kernel)
theorem tk_121 : (Jvm.Cond.classLink "WordShapes$Writer" 20 "WordShapes$Brackets") ∈ GT := gt_t 121 (by decide +kernel) (by decide +kernel)
theorem tq_122 : (Jvm.Cond.methodLinkNest "WordShapes$Writer" 22 y_B_init "WordShapes") ∈ tables_1 := List.mem_of_getElem? (i := 122) (by decide +kernel)
theorem tk_123 : (Jvm.Cond.fieldLink "WordShapes$Writer" 10 "WordShapes$Writer" "bytes" "[B") ∈ GT := gt_t 123 (by decide +kernel) (by decide +kernel)
theorem tq_124 : (Jvm.Cond.fieldLinkNest "WordShapes" 124 "WordShapes$Writer" "bytes" "[B" "WordShapes") ∈ tables_1 := List.mem_of_getElem? (i := 124) (by decide +kernel)
theorem tk_125 : (Jvm.Cond.fieldLink "WordShapes$Writer" 27 "WordShapes$Writer" "digits" "I") ∈ GT := gt_t 125 (by decide +kernel) (by decide +kernel)
theorem tk_126 : (Jvm.Cond.fieldLink "WordShapes$Writer" 16 "WordShapes$Writer" "decimals" "[I") ∈ GT := gt_t 126 (by decide +kernel) (by decide +kernel)
theorem tk_127 : (Jvm.Cond.fieldLink "WordShapes$Writer" 23 "WordShapes$Writer" "open" "LWordShapes$Brackets;") ∈ GT := gt_t 127 (by decide +kernel) (by decide +kernel)
theorem tq_128 : (Jvm.Cond.fieldLinkNest "WordShapes" 121 "WordShapes$Writer" "length" "I" "WordShapes") ∈ tables_1 := List.mem_of_getElem? (i := 128) (by decide +kernel)
theorem tk_129 : (Jvm.Cond.fieldLink "WordShapes$Writer" 31 "WordShapes$Writer" "keeps" "Z") ∈ GT := gt_t 129 (by decide +kernel) (by decide +kernel)
theorem tk_130 : (Jvm.Cond.fieldLink "WordShapes$Writer" 35 "WordShapes$Writer" "laid" "I") ∈ GT := gt_t 130 (by decide +kernel) (by decide +kernel)
theorem tk_131 : (Jvm.Cond.fieldLink "WordShapes$Writer" 38 "WordShapes$Writer" "nextNumber" "I") ∈ GT := gt_t 131 (by decide +kernel) (by decide +kernel)
theorem tk_132 : (Jvm.Cond.fieldLink "WordShapes$Writer" 41 "WordShapes$Writer" "nextPoint" "I") ∈ GT := gt_t 132 (by decide +kernel) (by decide +kernel)
theorem tk_133 : (Jvm.Cond.fieldLink "WordShapes$Writer" 44 "WordShapes$Writer" "isFirst" "Z") ∈ GT := gt_t 133 (by decide +kernel) (by decide +kernel)
theorem tk_134 : (Jvm.Cond.laysFinal "WordShapes$Writer" "WordShapes$Writer" "bytes" "[B") ∈ GT := gt_t 134 (by decide +kernel) (by decide +kernel)
theorem tk_136 : (Jvm.Cond.laysFinal "WordShapes$Writer" "WordShapes$Writer" "digits" "I") ∈ GT := gt_t 136 (by decide +kernel) (by decide +kernel)
theorem tk_138 : (Jvm.Cond.laysFinal "WordShapes$Writer" "WordShapes$Writer" "decimals" "[I") ∈ GT := gt_t 138 (by decide +kernel) (by decide +kernel)
theorem tk_140 : (Jvm.Cond.laysFinal "WordShapes$Writer" "WordShapes$Writer" "open" "LWordShapes$Brackets;") ∈ GT := gt_t 140 (by decide +kernel) (by decide +kernel)
theorem tk_142 : (Jvm.Cond.lays "WordShapes$Writer" "WordShapes$Writer" "length" "I") ∈ GT := gt_t 142 (by decide +kernel) (by decide +kernel)
theorem tk_144 : (Jvm.Cond.lays "WordShapes$Writer" "WordShapes$Writer" "keeps" "Z") ∈ GT := gt_t 144 (by decide +kernel) (by decide +kernel)
theorem tk_146 : (Jvm.Cond.lays "WordShapes$Writer" "WordShapes$Writer" "laid" "I") ∈ GT := gt_t 146 (by decide +kernel) (by decide +kernel)
theorem tk_148 : (Jvm.Cond.lays "WordShapes$Writer" "WordShapes$Writer" "nextNumber" "I") ∈ GT := gt_t 148 (by decide +kernel) (by decide +kernel)
theorem tk_150 : (Jvm.Cond.lays "WordShapes$Writer" "WordShapes$Writer" "nextPoint" "I") ∈ GT := gt_t 150 (by decide +kernel) (by decide +kernel)
theorem tk_152 : (Jvm.Cond.lays "WordShapes$Writer" "WordShapes$Writer" "isFirst" "Z") ∈ GT := gt_t 152 (by decide +kernel) (by decide +kernel)
theorem tk_155 : (Jvm.Cond.fieldLink "WordShapes" 11 "WordShapes" "slots" "[LWordShapes$Shape;") ∈ GT := gt_t 155 (by decide +kernel) (by decide +kernel)
theorem tk_156 : (Jvm.Cond.fieldLink "WordShapes" 28 "WordShapes" "tape" "[B") ∈ GT := gt_t 156 (by decide +kernel) (by decide +kernel)
theorem tk_157 : (Jvm.Cond.fieldLink "WordShapes" 37 "WordShapes" "reader" "LWordShapes$Reader;") ∈ GT := gt_t 157 (by decide +kernel) (by decide +kernel)
theorem tk_158 : (Jvm.Cond.fieldLink "WordShapes" 46 "WordShapes" "writer" "LWordShapes$Writer;") ∈ GT := gt_t 158 (by decide +kernel) (by decide +kernel)
theorem tk_159 : (Jvm.Cond.fieldLink "WordShapes" 50 "WordShapes" "tapeLength" "I") ∈ GT := gt_t 159 (by decide +kernel) (by decide +kernel)
theorem tk_160 : (Jvm.Cond.laysFinal "WordShapes" "WordShapes" "slots" "[LWordShapes$Shape;") ∈ GT := gt_t 160 (by decide +kernel) (by decide +kernel)
theorem tk_162 : (Jvm.Cond.laysFinal "WordShapes" "WordShapes" "tape" "[B") ∈ GT := gt_t 162 (by decide +kernel) (by decide +kernel)
theorem tk_164 : (Jvm.Cond.laysFinal "WordShapes" "WordShapes" "reader" "LWordShapes$Reader;") ∈ GT := gt_t 164 (by decide +kernel) (by decide +kernel)
theorem tk_166 : (Jvm.Cond.laysFinal "WordShapes" "WordShapes" "writer" "LWordShapes$Writer;") ∈ GT := gt_t 166 (by decide +kernel) (by decide +kernel)
theorem tk_168 : (Jvm.Cond.lays "WordShapes" "WordShapes" "tapeLength" "I") ∈ GT := gt_t 168 (by decide +kernel) (by decide +kernel)
theorem tk_171 : (Jvm.Cond.methodLink "WordShapesLaw" 85 y_W_again) ∈ GT := gt_t 171 (by decide +kernel) (by decide +kernel)
theorem tk_172 : (Jvm.Cond.instanceMethod y_W_again) ∈ GT := gt_t 172 (by decide +kernel) (by decide +kernel)
theorem tk_173 : (Jvm.Cond.selects "WordShapes" y_W_again y_W_again) ∈ GT := gt_t 173 (by decide +kernel) (by decide +kernel)
set_option maxRecDepth 20000 in
theorem tk_174 : (Jvm.Cond.code y_W_again prog_1_method_7_code 1 (Option.some Jvm.ClassFile.FieldType.int)) ∈ GT := gt_m (List.mem_append_left _ (List.mem_of_getElem? (i := 174) rfl)) rfl
theorem tk_175 : (Jvm.Cond.methodLink "WordShapes" 127 ({ cls := "java/lang/System", name := "arraycopy", desc := "(Ljava/lang/Object;ILjava/lang/Object;II)V" } : Jvm.MethodName)) ∈ GT := gt_t 175 (by decide +kernel) (by decide +kernel)
theorem tk_176 : (Jvm.Cond.static ({ cls := "java/lang/System", name := "arraycopy", desc := "(Ljava/lang/Object;ILjava/lang/Object;II)V" } : Jvm.MethodName)) ∈ GT := gt_t 176 (by decide +kernel) (by decide +kernel)
theorem tq_177 : (Jvm.Cond.native ({ cls := "java/lang/System", name := "arraycopy", desc := "(Ljava/lang/Object;ILjava/lang/Object;II)V" } : Jvm.MethodName)) ∈ tables_1 := List.mem_of_getElem? (i := 177) (by decide +kernel)
theorem tk_178 : (Jvm.Cond.methodLink "WordShapesLaw" 52 y_L_cell) ∈ GT := gt_t 178 (by decide +kernel) (by decide +kernel)
theorem tk_179 : (Jvm.Cond.static y_L_cell) ∈ GT := gt_t 179 (by decide +kernel) (by decide +kernel)
set_option maxRecDepth 20000 in
theorem tk_180 : (Jvm.Cond.code y_L_cell method_2_code 2 (Option.some Jvm.ClassFile.FieldType.int)) ∈ GT := gt_m (List.mem_append_left _ (List.mem_of_getElem? (i := 180) rfl)) rfl
theorem tk_181 : (Jvm.Cond.methodLink "WordShapesLaw" 64 y_L_feed) ∈ GT := gt_t 181 (by decide +kernel) (by decide +kernel)
theorem tk_182 : (Jvm.Cond.static y_L_feed) ∈ GT := gt_t 182 (by decide +kernel) (by decide +kernel)
set_option maxRecDepth 20000 in
theorem tq_183 : (Jvm.Cond.codeWith y_L_feed method_3_code 8 (Option.some Jvm.ClassFile.FieldType.int) [(0, 16, 19, 13)]) ∈ tables_1 := List.mem_append_left _ (List.mem_of_getElem? (i := 183) rfl)
theorem tk_184 : (Jvm.Cond.classLink "WordShapesLaw" 13 "java/lang/IllegalStateException") ∈ GT := gt_t 184 (by decide +kernel) (by decide +kernel)
theorem tk_185 : (Jvm.Cond.methodLink "WordShapesLaw" 7 y_W_feed) ∈ GT := gt_t 185 (by decide +kernel) (by decide +kernel)
theorem tk_186 : (Jvm.Cond.instanceMethod y_W_feed) ∈ GT := gt_t 186 (by decide +kernel) (by decide +kernel)
theorem tk_187 : (Jvm.Cond.selects "WordShapes" y_W_feed y_W_feed) ∈ GT := gt_t 187 (by decide +kernel) (by decide +kernel)
set_option maxRecDepth 20000 in
theorem tk_188 : (Jvm.Cond.code y_W_feed prog_1_method_2_code 6 (Option.some Jvm.ClassFile.FieldType.int)) ∈ GT := gt_m (List.mem_append_left _ (List.mem_of_getElem? (i := 188) rfl)) rfl
theorem tk_189 : (Jvm.Cond.constant "WordShapes" 54 (65516 : Int32)) ∈ GT := gt_t 189 (by decide +kernel) (by decide +kernel)
theorem tk_190 : (Jvm.Cond.classLink "WordShapes" 55 "java/lang/IllegalStateException") ∈ GT := gt_t 190 (by decide +kernel) (by decide +kernel)
theorem tk_191 : (Jvm.Cond.instantiable "java/lang/IllegalStateException" 6) ∈ GT := gt_t 191 (by decide +kernel) (by decide +kernel)
theorem tq_192 : (Jvm.Cond.castable "java/lang/IllegalStateException" "java/lang/IllegalStateException") ∈ tables_1 := List.mem_of_getElem? (i := 192) (by decide +kernel)
theorem tq_193 : (Jvm.Cond.declares ({ cls := "java/lang/RuntimeException", name := "<init>", desc := "()V" } : Jvm.MethodName)) ∈ tables_1 := List.mem_of_getElem? (i := 193) (by decide +kernel)
theorem tq_194 : (Jvm.Cond.declares y_JRuntimeException_init) ∈ tables_1 := List.mem_of_getElem? (i := 194) (by decide +kernel)
theorem tq_195 : (Jvm.Cond.declares ({ cls := "java/lang/Exception", name := "<init>", desc := "()V" } : Jvm.MethodName)) ∈ tables_1 := List.mem_of_getElem? (i := 195) (by decide +kernel)
theorem tq_196 : (Jvm.Cond.declares y_JException_init) ∈ tables_1 := List.mem_of_getElem? (i := 196) (by decide +kernel)
theorem tq_197 : (Jvm.Cond.declares ({ cls := "java/lang/Throwable", name := "<init>", desc := "()V" } : Jvm.MethodName)) ∈ tables_1 := List.mem_of_getElem? (i := 197) (by decide +kernel)
theorem tq_198 : (Jvm.Cond.declares y_JThrowable_init) ∈ tables_1 := List.mem_of_getElem? (i := 198) (by decide +kernel)
theorem tk_199 : (Jvm.Cond.selects "java/lang/IllegalStateException" ({ cls := "java/lang/Throwable", name := "fillInStackTrace", desc := "(I)Ljava/lang/Throwable;" } : Jvm.MethodName) ({ cls := "java/lang/Throwable", name := "fillInStackTrace", desc := "(I)Ljava/lang/Throwable;" } : Jvm.MethodName)) ∈ GT := gt_t 199 (by decide +kernel) (by decide +kernel)
theorem tk_200 : (Jvm.Cond.selects "java/lang/IllegalStateException" y_JThrowable_fillInStackTrace y_JThrowable_fillInStackTrace) ∈ GT := gt_t 200 (by decide +kernel) (by decide +kernel)
theorem tk_201 : (Jvm.Cond.lays "java/lang/IllegalStateException" "java/lang/Throwable" "cause" "Ljava/lang/Throwable;") ∈ GT := gt_t 201 (by decide +kernel) (by decide +kernel)
theorem tk_202 : (Jvm.Cond.lays "java/lang/Throwable" "java/lang/Throwable" "cause" "Ljava/lang/Throwable;") ∈ GT := gt_t 202 (by decide +kernel) (by decide +kernel)
theorem tk_203 : (Jvm.Cond.lays "java/lang/IllegalStateException" "java/lang/Throwable" "stackTrace" "[Ljava/lang/StackTraceElement;") ∈ GT := gt_t 203 (by decide +kernel) (by decide +kernel)
theorem tk_204 : (Jvm.Cond.lays "java/lang/Throwable" "java/lang/Throwable" "stackTrace" "[Ljava/lang/StackTraceElement;") ∈ GT := gt_t 204 (by decide +kernel) (by decide +kernel)
theorem tk_205 : (Jvm.Cond.lays "java/lang/IllegalStateException" "java/lang/Throwable" "suppressedExceptions" "Ljava/util/List;") ∈ GT := gt_t 205 (by decide +kernel) (by decide +kernel)
theorem tk_206 : (Jvm.Cond.lays "java/lang/Throwable" "java/lang/Throwable" "suppressedExceptions" "Ljava/util/List;") ∈ GT := gt_t 206 (by decide +kernel) (by decide +kernel)
theorem tk_207 : (Jvm.Cond.lays "java/lang/IllegalStateException" "java/lang/Throwable" "detailMessage" "Ljava/lang/String;") ∈ GT := gt_t 207 (by decide +kernel) (by decide +kernel)
theorem tk_208 : (Jvm.Cond.lays "java/lang/Throwable" "java/lang/Throwable" "detailMessage" "Ljava/lang/String;") ∈ GT := gt_t 208 (by decide +kernel) (by decide +kernel)
theorem tk_209 : (Jvm.Cond.lays "java/lang/IllegalStateException" "java/lang/Throwable" "backtrace" "Ljava/lang/Object;") ∈ GT := gt_t 209 (by decide +kernel) (by decide +kernel)
theorem tk_210 : (Jvm.Cond.lays "java/lang/Throwable" "java/lang/Throwable" "backtrace" "Ljava/lang/Object;") ∈ GT := gt_t 210 (by decide +kernel) (by decide +kernel)
theorem tk_211 : (Jvm.Cond.fieldLink "java/lang/Throwable" 198 "java/lang/Throwable" "backtrace" "Ljava/lang/Object;") ∈ GT := gt_t 211 (by decide +kernel) (by decide +kernel)
theorem tk_213 : (Jvm.Cond.instanceMethod ({ cls := "java/lang/Throwable", name := "<init>", desc := "()V" } : Jvm.MethodName)) ∈ GT := gt_t 213 (by decide +kernel) (by decide +kernel)
set_option maxRecDepth 20000 in
theorem tk_214 : (Jvm.Cond.code ({ cls := "java/lang/Throwable", name := "<init>", desc := "()V" } : Jvm.MethodName) prog_18_method_1_code 1 (Option.none : Option Jvm.ClassFile.FieldType)) ∈ GT := gt_m (List.mem_append_left _ (List.mem_of_getElem? (i := 214) rfl)) rfl
theorem tk_215 : (Jvm.Cond.methodLink "java/lang/Throwable" 1 y_JObject_init) ∈ GT := gt_t 215 (by decide +kernel) (by decide +kernel)
theorem tk_216 : (Jvm.Cond.fieldLink "java/lang/Throwable" 13 "java/lang/Throwable" "UNASSIGNED_STACK" "[Ljava/lang/StackTraceElement;") ∈ GT := gt_t 216 (by decide +kernel) (by decide +kernel)
theorem tq_217 : (Jvm.Cond.laysStatic "java/lang/Throwable" "UNASSIGNED_STACK" "[Ljava/lang/StackTraceElement;") ∈ tables_1 := List.mem_of_getElem? (i := 217) (by decide +kernel)
theorem tk_218 : (Jvm.Cond.fieldLink "java/lang/Throwable" 20 "java/lang/Throwable" "SUPPRESSED_SENTINEL" "Ljava/util/List;") ∈ GT := gt_t 218 (by decide +kernel) (by decide +kernel)
theorem tq_219 : (Jvm.Cond.laysStatic "java/lang/Throwable" "SUPPRESSED_SENTINEL" "Ljava/util/List;") ∈ tables_1 := List.mem_of_getElem? (i := 219) (by decide +kernel)
theorem tk_220 : (Jvm.Cond.methodLink "java/lang/Throwable" 27 y_JThrowable_fillInStackTrace) ∈ GT := gt_t 220 (by decide +kernel) (by decide +kernel)
theorem tk_221 : (Jvm.Cond.instanceMethod y_JThrowable_fillInStackTrace) ∈ GT := gt_t 221 (by decide +kernel) (by decide +kernel)
theorem tq_222 : (Jvm.Cond.sameMethod "java/lang/Throwable" "java/lang/Throwable" "fillInStackTrace" "()Ljava/lang/Throwable;") ∈ tables_1 := List.mem_of_getElem? (i := 222) (by decide +kernel)
theorem tk_223 : (Jvm.Cond.selects "java/lang/IllegalArgumentException" y_JThrowable_fillInStackTrace y_JThrowable_fillInStackTrace) ∈ GT := gt_t 223 (by decide +kernel) (by decide +kernel)
theorem tk_224 : (Jvm.Cond.selects "java/lang/IndexOutOfBoundsException" y_JThrowable_fillInStackTrace y_JThrowable_fillInStackTrace) ∈ GT := gt_t 224 (by decide +kernel) (by decide +kernel)
theorem tk_225 : (Jvm.Cond.selects "java/lang/UnsupportedOperationException" y_JThrowable_fillInStackTrace y_JThrowable_fillInStackTrace) ∈ GT := gt_t 225 (by decide +kernel) (by decide +kernel)
set_option maxRecDepth 20000 in
theorem tq_226 : (Jvm.Cond.codeSync y_JThrowable_fillInStackTrace prog_18_method_18_code 1 (Option.some (Jvm.ClassFile.FieldType.object "java/lang/Throwable"))) ∈ tables_1 := List.mem_append_left _ (List.mem_of_getElem? (i := 226) rfl)
theorem tk_227 : (Jvm.Cond.methodLink "java/lang/Throwable" 202 ({ cls := "java/lang/Throwable", name := "fillInStackTrace", desc := "(I)Ljava/lang/Throwable;" } : Jvm.MethodName)) ∈ GT := gt_t 227 (by decide +kernel) (by decide +kernel)
theorem tk_229 : (Jvm.Cond.instanceMethod ({ cls := "java/lang/Throwable", name := "fillInStackTrace", desc := "(I)Ljava/lang/Throwable;" } : Jvm.MethodName)) ∈ GT := gt_t 229 (by decide +kernel) (by decide +kernel)
theorem tk_230 : (Jvm.Cond.instantiable "java/lang/Throwable" 6) ∈ GT := gt_t 230 (by decide +kernel) (by decide +kernel)
theorem tq_231 : (Jvm.Cond.native ({ cls := "java/lang/Throwable", name := "fillInStackTrace", desc := "(I)Ljava/lang/Throwable;" } : Jvm.MethodName)) ∈ tables_1 := List.mem_of_getElem? (i := 231) (by decide +kernel)
theorem tq_232 : (Jvm.Cond.stringRef "WordShapes" 57 "the tape is full") ∈ tables_1 := List.mem_of_getElem? (i := 232) (by decide +kernel)
theorem tk_233 : (Jvm.Cond.methodLink "WordShapes" 59 y_JIllegalStateException_init) ∈ GT := gt_t 233 (by decide +kernel) (by decide +kernel)
theorem tk_234 : (Jvm.Cond.instanceMethod y_JIllegalStateException_init) ∈ GT := gt_t 234 (by decide +kernel) (by decide +kernel)
set_option maxRecDepth 20000 in
theorem tk_235 : (Jvm.Cond.code y_JIllegalStateException_init prog_10_method_2_code 2 (Option.none : Option Jvm.ClassFile.FieldType)) ∈ GT := gt_m (List.mem_append_left _ (List.mem_of_getElem? (i := 235) rfl)) rfl
theorem tk_236 : (Jvm.Cond.methodLink "java/lang/IllegalStateException" 7 y_JRuntimeException_init) ∈ GT := gt_t 236 (by decide +kernel) (by decide +kernel)
theorem tk_237 : (Jvm.Cond.instanceMethod y_JRuntimeException_init) ∈ GT := gt_t 237 (by decide +kernel) (by decide +kernel)
set_option maxRecDepth 20000 in
theorem tk_238 : (Jvm.Cond.code y_JRuntimeException_init prog_13_method_2_code 2 (Option.none : Option Jvm.ClassFile.FieldType)) ∈ GT := gt_m (List.mem_append_left _ (List.mem_of_getElem? (i := 238) rfl)) rfl
theorem tk_239 : (Jvm.Cond.methodLink "java/lang/RuntimeException" 7 y_JException_init) ∈ GT := gt_t 239 (by decide +kernel) (by decide +kernel)
theorem tk_240 : (Jvm.Cond.instanceMethod y_JException_init) ∈ GT := gt_t 240 (by decide +kernel) (by decide +kernel)
set_option maxRecDepth 20000 in
theorem tk_241 : (Jvm.Cond.code y_JException_init prog_8_method_2_code 2 (Option.none : Option Jvm.ClassFile.FieldType)) ∈ GT := gt_m (List.mem_append_right _ (List.mem_append_left _ (List.mem_of_getElem? (i := 1) rfl))) rfl
theorem tk_242 : (Jvm.Cond.methodLink "java/lang/Exception" 7 y_JThrowable_init) ∈ GT := gt_t 242 (by decide +kernel) (by decide +kernel)
theorem tk_243 : (Jvm.Cond.instanceMethod y_JThrowable_init) ∈ GT := gt_t 243 (by decide +kernel) (by decide +kernel)
set_option maxRecDepth 20000 in
theorem tk_244 : (Jvm.Cond.code y_JThrowable_init prog_18_method_2_code 2 (Option.none : Option Jvm.ClassFile.FieldType)) ∈ GT := gt_m (List.mem_append_right _ (List.mem_append_left _ (List.mem_of_getElem? (i := 4) rfl))) rfl
theorem tk_245 : (Jvm.Cond.fieldLink "java/lang/Throwable" 198 "java/lang/Throwable" "backtrace" "Ljava/lang/Object;") ∈ GT := gt_t 245 (by decide +kernel) (by decide +kernel)
theorem tk_246 : (Jvm.Cond.fieldLink "java/lang/Throwable" 31 "java/lang/Throwable" "detailMessage" "Ljava/lang/String;") ∈ GT := gt_t 246 (by decide +kernel) (by decide +kernel)
theorem tk_247 : (Jvm.Cond.fieldLink "java/lang/Throwable" 7 "java/lang/Throwable" "cause" "Ljava/lang/Throwable;") ∈ GT := gt_t 247 (by decide +kernel) (by decide +kernel)
theorem tk_248 : (Jvm.Cond.fieldLink "java/lang/Throwable" 17 "java/lang/Throwable" "stackTrace" "[Ljava/lang/StackTraceElement;") ∈ GT := gt_t 248 (by decide +kernel) (by decide +kernel)
theorem tk_249 : (Jvm.Cond.fieldLink "java/lang/Throwable" 24 "java/lang/Throwable" "suppressedExceptions" "Ljava/util/List;") ∈ GT := gt_t 249 (by decide +kernel) (by decide +kernel)
theorem tk_254 : (Jvm.Cond.lays "java/lang/IllegalStateException" "java/lang/Throwable" "depth" "I") ∈ GT := gt_t 254 (by decide +kernel) (by decide +kernel)
theorem tk_258 : (Jvm.Cond.methodLink "WordShapes" 62 y_W_feedFour) ∈ GT := gt_t 258 (by decide +kernel) (by decide +kernel)
theorem tk_260 : (Jvm.Cond.instanceMethod y_W_feedFour) ∈ GT := gt_t 260 (by decide +kernel) (by decide +kernel)
set_option maxRecDepth 20000 in
theorem tk_261 : (Jvm.Cond.code y_W_feedFour prog_1_method_14_code 3 (Option.none : Option Jvm.ClassFile.FieldType)) ∈ GT := gt_m (List.mem_append_right _ (List.mem_append_left _ (List.mem_of_getElem? (i := 21) rfl))) rfl
theorem tk_262 : (Jvm.Cond.methodLink "WordShapesLaw" 72 y_L_end) ∈ GT := gt_t 262 (by decide +kernel) (by decide +kernel)
theorem tk_263 : (Jvm.Cond.static y_L_end) ∈ GT := gt_t 263 (by decide +kernel) (by decide +kernel)
set_option maxRecDepth 20000 in
theorem tq_264 : (Jvm.Cond.codeWith y_L_end method_4_code 4 (Option.some Jvm.ClassFile.FieldType.int) [(0, 9, 12, 19), (0, 9, 15, 13)]) ∈ tables_1 := List.mem_append_right _ (List.mem_append_left _ (List.mem_of_getElem? (i := 24) rfl))
theorem tk_265 : (Jvm.Cond.classLink "WordShapesLaw" 19 "java/lang/IllegalArgumentException") ∈ GT := gt_t 265 (by decide +kernel) (by decide +kernel)
theorem tk_266 : (Jvm.Cond.methodLink "WordShapesLaw" 15 y_W_end) ∈ GT := gt_t 266 (by decide +kernel) (by decide +kernel)
theorem tk_267 : (Jvm.Cond.instanceMethod y_W_end) ∈ GT := gt_t 267 (by decide +kernel) (by decide +kernel)
theorem tk_268 : (Jvm.Cond.selects "WordShapes" y_W_end y_W_end) ∈ GT := gt_t 268 (by decide +kernel) (by decide +kernel)
set_option maxRecDepth 20000 in
theorem tk_269 : (Jvm.Cond.code y_W_end prog_1_method_3_code 2 (Option.some Jvm.ClassFile.FieldType.int)) ∈ GT := gt_m (List.mem_append_right _ (List.mem_append_left _ (List.mem_of_getElem? (i := 29) rfl))) rfl
theorem tk_270 : (Jvm.Cond.classLink "WordShapes" 65 "java/lang/IllegalArgumentException") ∈ GT := gt_t 270 (by decide +kernel) (by decide +kernel)
theorem tk_271 : (Jvm.Cond.instantiable "java/lang/IllegalArgumentException" 6) ∈ GT := gt_t 271 (by decide +kernel) (by decide +kernel)
theorem tq_272 : (Jvm.Cond.castable "java/lang/IllegalArgumentException" "java/lang/IllegalArgumentException") ∈ tables_1 := List.mem_of_getElem? (i := 272) (by decide +kernel)
theorem tk_273 : (Jvm.Cond.selects "java/lang/IllegalArgumentException" ({ cls := "java/lang/Throwable", name := "fillInStackTrace", desc := "(I)Ljava/lang/Throwable;" } : Jvm.MethodName) ({ cls := "java/lang/Throwable", name := "fillInStackTrace", desc := "(I)Ljava/lang/Throwable;" } : Jvm.MethodName)) ∈ GT := gt_t 273 (by decide +kernel) (by decide +kernel)
theorem tk_274 : (Jvm.Cond.lays "java/lang/IllegalArgumentException" "java/lang/Throwable" "cause" "Ljava/lang/Throwable;") ∈ GT := gt_t 274 (by decide +kernel) (by decide +kernel)
theorem tk_275 : (Jvm.Cond.lays "java/lang/IllegalArgumentException" "java/lang/Throwable" "stackTrace" "[Ljava/lang/StackTraceElement;") ∈ GT := gt_t 275 (by decide +kernel) (by decide +kernel)
theorem tk_276 : (Jvm.Cond.lays "java/lang/IllegalArgumentException" "java/lang/Throwable" "suppressedExceptions" "Ljava/util/List;") ∈ GT := gt_t 276 (by decide +kernel) (by decide +kernel)
theorem tk_277 : (Jvm.Cond.lays "java/lang/IllegalArgumentException" "java/lang/Throwable" "detailMessage" "Ljava/lang/String;") ∈ GT := gt_t 277 (by decide +kernel) (by decide +kernel)
theorem tk_278 : (Jvm.Cond.lays "java/lang/IllegalArgumentException" "java/lang/Throwable" "backtrace" "Ljava/lang/Object;") ∈ GT := gt_t 278 (by decide +kernel) (by decide +kernel)
theorem tq_279 : (Jvm.Cond.stringRef "WordShapes" 67 "n is not 0 .. 20") ∈ tables_1 := List.mem_of_getElem? (i := 279) (by decide +kernel)
theorem tk_280 : (Jvm.Cond.methodLink "WordShapes" 69 y_JIllegalArgumentException_init) ∈ GT := gt_t 280 (by decide +kernel) (by decide +kernel)
theorem tk_281 : (Jvm.Cond.instanceMethod y_JIllegalArgumentException_init) ∈ GT := gt_t 281 (by decide +kernel) (by decide +kernel)
set_option maxRecDepth 20000 in
theorem tk_282 : (Jvm.Cond.code y_JIllegalArgumentException_init prog_9_method_2_code 2 (Option.none : Option Jvm.ClassFile.FieldType)) ∈ GT := gt_m (List.mem_append_right _ (List.mem_append_left _ (List.mem_of_getElem? (i := 42) rfl))) rfl
theorem tk_283 : (Jvm.Cond.methodLink "java/lang/IllegalArgumentException" 7 y_JRuntimeException_init) ∈ GT := gt_t 283 (by decide +kernel) (by decide +kernel)
theorem tk_284 : (Jvm.Cond.lays "java/lang/IllegalArgumentException" "java/lang/Throwable" "depth" "I") ∈ GT := gt_t 284 (by decide +kernel) (by decide +kernel)
theorem tq_286 : (Jvm.Cond.stringRef "WordShapes" 70 "the tape has less than twenty bytes") ∈ tables_1 := List.mem_of_getElem? (i := 286) (by decide +kernel)
theorem tk_287 : (Jvm.Cond.methodLink "WordShapesLaw" 76 y_L_read) ∈ GT := gt_t 287 (by decide +kernel) (by decide +kernel)
theorem tk_288 : (Jvm.Cond.static y_L_read) ∈ GT := gt_t 288 (by decide +kernel) (by decide +kernel)
set_option maxRecDepth 20000 in
theorem tq_289 : (Jvm.Cond.codeWith y_L_read method_5_code 4 (Option.some Jvm.ClassFile.FieldType.int) [(0, 9, 12, 24), (0, 9, 15, 19)]) ∈ tables_1 := List.mem_append_right _ (List.mem_append_left _ (List.mem_of_getElem? (i := 49) rfl))
theorem tk_290 : (Jvm.Cond.classLink "WordShapesLaw" 24 "java/lang/IndexOutOfBoundsException") ∈ GT := gt_t 290 (by decide +kernel) (by decide +kernel)
theorem tk_291 : (Jvm.Cond.methodLink "WordShapesLaw" 21 y_W_read) ∈ GT := gt_t 291 (by decide +kernel) (by decide +kernel)
theorem tk_292 : (Jvm.Cond.instanceMethod y_W_read) ∈ GT := gt_t 292 (by decide +kernel) (by decide +kernel)
theorem tk_293 : (Jvm.Cond.selects "WordShapes" y_W_read y_W_read) ∈ GT := gt_t 293 (by decide +kernel) (by decide +kernel)
set_option maxRecDepth 20000 in
theorem tk_294 : (Jvm.Cond.code y_W_read prog_1_method_4_code 4 (Option.some Jvm.ClassFile.FieldType.int)) ∈ GT := gt_m (List.mem_append_right _ (List.mem_append_left _ (List.mem_of_getElem? (i := 54) rfl))) rfl
theorem tk_295 : (Jvm.Cond.methodLink "WordShapes" 72 y_W_shapeIn) ∈ GT := gt_t 295 (by decide +kernel) (by decide +kernel)
theorem tk_297 : (Jvm.Cond.instanceMethod y_W_shapeIn) ∈ GT := gt_t 297 (by decide +kernel) (by decide +kernel)
set_option maxRecDepth 20000 in
theorem tk_298 : (Jvm.Cond.code y_W_shapeIn prog_1_method_13_code 2 (Option.some (Jvm.ClassFile.FieldType.object "WordShapes$Shape"))) ∈ GT := gt_m (List.mem_append_right _ (List.mem_append_left _ (List.mem_of_getElem? (i := 58) rfl))) rfl
theorem tk_299 : (Jvm.Cond.classLink "WordShapes" 100 "java/lang/IndexOutOfBoundsException") ∈ GT := gt_t 299 (by decide +kernel) (by decide +kernel)
theorem tk_300 : (Jvm.Cond.instantiable "java/lang/IndexOutOfBoundsException" 6) ∈ GT := gt_t 300 (by decide +kernel) (by decide +kernel)
theorem tq_301 : (Jvm.Cond.castable "java/lang/IndexOutOfBoundsException" "java/lang/IndexOutOfBoundsException") ∈ tables_1 := List.mem_of_getElem? (i := 301) (by decide +kernel)
theorem tk_302 : (Jvm.Cond.selects "java/lang/IndexOutOfBoundsException" ({ cls := "java/lang/Throwable", name := "fillInStackTrace", desc := "(I)Ljava/lang/Throwable;" } : Jvm.MethodName) ({ cls := "java/lang/Throwable", name := "fillInStackTrace", desc := "(I)Ljava/lang/Throwable;" } : Jvm.MethodName)) ∈ GT := gt_t 302 (by decide +kernel) (by decide +kernel)
theorem tk_303 : (Jvm.Cond.lays "java/lang/IndexOutOfBoundsException" "java/lang/Throwable" "cause" "Ljava/lang/Throwable;") ∈ GT := gt_t 303 (by decide +kernel) (by decide +kernel)
theorem tk_304 : (Jvm.Cond.lays "java/lang/IndexOutOfBoundsException" "java/lang/Throwable" "stackTrace" "[Ljava/lang/StackTraceElement;") ∈ GT := gt_t 304 (by decide +kernel) (by decide +kernel)
theorem tk_305 : (Jvm.Cond.lays "java/lang/IndexOutOfBoundsException" "java/lang/Throwable" "suppressedExceptions" "Ljava/util/List;") ∈ GT := gt_t 305 (by decide +kernel) (by decide +kernel)
theorem tk_306 : (Jvm.Cond.lays "java/lang/IndexOutOfBoundsException" "java/lang/Throwable" "detailMessage" "Ljava/lang/String;") ∈ GT := gt_t 306 (by decide +kernel) (by decide +kernel)
theorem tk_307 : (Jvm.Cond.lays "java/lang/IndexOutOfBoundsException" "java/lang/Throwable" "backtrace" "Ljava/lang/Object;") ∈ GT := gt_t 307 (by decide +kernel) (by decide +kernel)
theorem tq_308 : (Jvm.Cond.stringRef "WordShapes" 156 "no such slot") ∈ tables_1 := List.mem_of_getElem? (i := 308) (by decide +kernel)
theorem tk_309 : (Jvm.Cond.methodLink "WordShapes" 104 y_JIndexOutOfBoundsException_init) ∈ GT := gt_t 309 (by decide +kernel) (by decide +kernel)
theorem tk_310 : (Jvm.Cond.instanceMethod y_JIndexOutOfBoundsException_init) ∈ GT := gt_t 310 (by decide +kernel) (by decide +kernel)
set_option maxRecDepth 20000 in
theorem tk_311 : (Jvm.Cond.code y_JIndexOutOfBoundsException_init prog_11_method_2_code 2 (Option.none : Option Jvm.ClassFile.FieldType)) ∈ GT := gt_m (List.mem_append_right _ (List.mem_append_left _ (List.mem_of_getElem? (i := 71) rfl))) rfl
theorem tk_312 : (Jvm.Cond.methodLink "java/lang/IndexOutOfBoundsException" 7 y_JRuntimeException_init) ∈ GT := gt_t 312 (by decide +kernel) (by decide +kernel)
theorem tk_313 : (Jvm.Cond.lays "java/lang/IndexOutOfBoundsException" "java/lang/Throwable" "depth" "I") ∈ GT := gt_t 313 (by decide +kernel) (by decide +kernel)
theorem tk_315 : (Jvm.Cond.methodLink "WordShapes" 76 y_S_clear) ∈ GT := gt_t 315 (by decide +kernel) (by decide +kernel)
theorem tk_316 : (Jvm.Cond.instanceMethod y_S_clear) ∈ GT := gt_t 316 (by decide +kernel) (by decide +kernel)
theorem tk_317 : (Jvm.Cond.selects "WordShapes$Shape" y_S_clear y_S_clear) ∈ GT := gt_t 317 (by decide +kernel) (by decide +kernel)
set_option maxRecDepth 20000 in
theorem tk_318 : (Jvm.Cond.code y_S_clear prog_4_method_2_code 1 (Option.none : Option Jvm.ClassFile.FieldType)) ∈ GT := gt_m (List.mem_append_right _ (List.mem_append_left _ (List.mem_of_getElem? (i := 78) rfl))) rfl
theorem tk_319 : (Jvm.Cond.methodLink "WordShapes" 79 y_R_readText) ∈ GT := gt_t 319 (by decide +kernel) (by decide +kernel)
theorem tk_320 : (Jvm.Cond.instanceMethod y_R_readText) ∈ GT := gt_t 320 (by decide +kernel) (by decide +kernel)
theorem tk_321 : (Jvm.Cond.selects "WordShapes$Reader" y_R_readText y_R_readText) ∈ GT := gt_t 321 (by decide +kernel) (by decide +kernel)
set_option maxRecDepth 20000 in
theorem tk_322 : (Jvm.Cond.code y_R_readText prog_3_method_2_code 4 (Option.none : Option Jvm.ClassFile.FieldType)) ∈ GT := gt_m (List.mem_append_right _ (List.mem_append_left _ (List.mem_of_getElem? (i := 82) rfl))) rfl
theorem tk_323 : (Jvm.Cond.methodLink "WordShapes$Reader" 30 y_JMath_min) ∈ GT := gt_t 323 (by decide +kernel) (by decide +kernel)
theorem tk_324 : (Jvm.Cond.methodLink "WordShapes$Reader" 48 y_S_clear) ∈ GT := gt_t 324 (by decide +kernel) (by decide +kernel)
theorem tk_325 : (Jvm.Cond.methodLink "WordShapes$Reader" 53 y_B_start) ∈ GT := gt_t 325 (by decide +kernel) (by decide +kernel)
theorem tk_326 : (Jvm.Cond.instanceMethod y_B_start) ∈ GT := gt_t 326 (by decide +kernel) (by decide +kernel)
theorem tk_327 : (Jvm.Cond.selects "WordShapes$Brackets" y_B_start y_B_start) ∈ GT := gt_t 327 (by decide +kernel) (by decide +kernel)
set_option maxRecDepth 20000 in
theorem tk_328 : (Jvm.Cond.code y_B_start prog_2_method_2_code 2 (Option.none : Option Jvm.ClassFile.FieldType)) ∈ GT := gt_m (List.mem_append_right _ (List.mem_append_left _ (List.mem_of_getElem? (i := 88) rfl))) rfl
theorem tk_329 : (Jvm.Cond.methodLink "WordShapes$Reader" 57 y_R_opensItem) ∈ GT := gt_t 329 (by decide +kernel) (by decide +kernel)
theorem tk_331 : (Jvm.Cond.instanceMethod y_R_opensItem) ∈ GT := gt_t 331 (by decide +kernel) (by decide +kernel)
set_option maxRecDepth 20000 in
theorem tk_332 : (Jvm.Cond.code y_R_opensItem prog_3_method_3_code 3 (Option.some Jvm.ClassFile.FieldType.boolean)) ∈ GT := gt_m (List.mem_append_right _ (List.mem_append_left _ (List.mem_of_getElem? (i := 92) rfl))) rfl
theorem tk_333 : (Jvm.Cond.methodLink "WordShapes$Reader" 64 y_R_skipBlanks) ∈ GT := gt_t 333 (by decide +kernel) (by decide +kernel)
theorem tk_335 : (Jvm.Cond.instanceMethod y_R_skipBlanks) ∈ GT := gt_t 335 (by decide +kernel) (by decide +kernel)
set_option maxRecDepth 20000 in
theorem tk_336 : (Jvm.Cond.code y_R_skipBlanks prog_3_method_21_code 1 (Option.none : Option Jvm.ClassFile.FieldType)) ∈ GT := gt_m (List.mem_append_right _ (List.mem_append_left _ (List.mem_of_getElem? (i := 96) rfl))) rfl
theorem tk_337 : (Jvm.Cond.methodLink "WordShapes$Reader" 191 y_R_isBlank) ∈ GT := gt_t 337 (by decide +kernel) (by decide +kernel)
theorem tk_338 : (Jvm.Cond.static y_R_isBlank) ∈ GT := gt_t 338 (by decide +kernel) (by decide +kernel)
set_option maxRecDepth 20000 in
theorem tk_339 : (Jvm.Cond.code y_R_isBlank prog_3_method_25_code 1 (Option.some Jvm.ClassFile.FieldType.boolean)) ∈ GT := gt_m (List.mem_append_right _ (List.mem_append_left _ (List.mem_of_getElem? (i := 99) rfl))) rfl
theorem tk_340 : (Jvm.Cond.methodLink "WordShapes$Reader" 71 y_B_number) ∈ GT := gt_t 340 (by decide +kernel) (by decide +kernel)
theorem tk_341 : (Jvm.Cond.instanceMethod y_B_number) ∈ GT := gt_t 341 (by decide +kernel) (by decide +kernel)
theorem tk_342 : (Jvm.Cond.selects "WordShapes$Brackets" y_B_number y_B_number) ∈ GT := gt_t 342 (by decide +kernel) (by decide +kernel)
set_option maxRecDepth 20000 in
theorem tk_343 : (Jvm.Cond.code y_B_number prog_2_method_6_code 1 (Option.some Jvm.ClassFile.FieldType.int)) ∈ GT := gt_m (List.mem_append_right _ (List.mem_append_left _ (List.mem_of_getElem? (i := 103) rfl))) rfl
theorem tk_344 : (Jvm.Cond.methodLink "WordShapes$Reader" 75 y_S_addOneAt) ∈ GT := gt_t 344 (by decide +kernel) (by decide +kernel)
theorem tk_345 : (Jvm.Cond.instanceMethod y_S_addOneAt) ∈ GT := gt_t 345 (by decide +kernel) (by decide +kernel)
theorem tk_346 : (Jvm.Cond.selects "WordShapes$Shape" y_S_addOneAt y_S_addOneAt) ∈ GT := gt_t 346 (by decide +kernel) (by decide +kernel)
set_option maxRecDepth 20000 in
theorem tk_347 : (Jvm.Cond.code y_S_addOneAt prog_4_method_8_code 2 (Option.none : Option Jvm.ClassFile.FieldType)) ∈ GT := gt_m (List.mem_append_right _ (List.mem_append_left _ (List.mem_of_getElem? (i := 107) rfl))) rfl
theorem tk_348 : (Jvm.Cond.methodLink "WordShapes$Reader" 78 y_B_kind) ∈ GT := gt_t 348 (by decide +kernel) (by decide +kernel)
theorem tk_349 : (Jvm.Cond.instanceMethod y_B_kind) ∈ GT := gt_t 349 (by decide +kernel) (by decide +kernel)
theorem tk_350 : (Jvm.Cond.selects "WordShapes$Brackets" y_B_kind y_B_kind) ∈ GT := gt_t 350 (by decide +kernel) (by decide +kernel)
set_option maxRecDepth 20000 in
theorem tk_351 : (Jvm.Cond.code y_B_kind prog_2_method_5_code 1 (Option.some Jvm.ClassFile.FieldType.int)) ∈ GT := gt_m (List.mem_append_right _ (List.mem_append_left _ (List.mem_of_getElem? (i := 111) rfl))) rfl
theorem tk_352 : (Jvm.Cond.methodLink "WordShapes$Reader" 81 y_R_readKind) ∈ GT := gt_t 352 (by decide +kernel) (by decide +kernel)
theorem tk_354 : (Jvm.Cond.instanceMethod y_R_readKind) ∈ GT := gt_t 354 (by decide +kernel) (by decide +kernel)
set_option maxRecDepth 20000 in
theorem tk_355 : (Jvm.Cond.code y_R_readKind prog_3_method_5_code 3 (Option.some Jvm.ClassFile.FieldType.int)) ∈ GT := gt_m (List.mem_append_right _ (List.mem_append_left _ (List.mem_of_getElem? (i := 115) rfl))) rfl
theorem tk_356 : (Jvm.Cond.methodLink "WordShapes$Reader" 91 y_R_here) ∈ GT := gt_t 356 (by decide +kernel) (by decide +kernel)
theorem tk_358 : (Jvm.Cond.instanceMethod y_R_here) ∈ GT := gt_t 358 (by decide +kernel) (by decide +kernel)
set_option maxRecDepth 20000 in
theorem tk_359 : (Jvm.Cond.code y_R_here prog_3_method_22_code 1 (Option.some Jvm.ClassFile.FieldType.int)) ∈ GT := gt_m (List.mem_append_right _ (List.mem_append_left _ (List.mem_of_getElem? (i := 119) rfl))) rfl
theorem tk_360 : (Jvm.Cond.methodLink "WordShapes$Reader" 115 y_R_isLetter) ∈ GT := gt_t 360 (by decide +kernel) (by decide +kernel)
theorem tk_361 : (Jvm.Cond.static y_R_isLetter) ∈ GT := gt_t 361 (by decide +kernel) (by decide +kernel)
set_option maxRecDepth 20000 in
theorem tk_362 : (Jvm.Cond.code y_R_isLetter prog_3_method_26_code 1 (Option.some Jvm.ClassFile.FieldType.boolean)) ∈ GT := gt_m (List.mem_append_right _ (List.mem_append_left _ (List.mem_of_getElem? (i := 122) rfl))) rfl
theorem tk_363 : (Jvm.Cond.methodLink "WordShapes$Reader" 118 y_R_failHere) ∈ GT := gt_t 363 (by decide +kernel) (by decide +kernel)
theorem tk_365 : (Jvm.Cond.instanceMethod y_R_failHere) ∈ GT := gt_t 365 (by decide +kernel) (by decide +kernel)
set_option maxRecDepth 20000 in
theorem tk_366 : (Jvm.Cond.code y_R_failHere prog_3_method_23_code 3 (Option.none : Option Jvm.ClassFile.FieldType)) ∈ GT := gt_m (List.mem_append_right _ (List.mem_append_left _ (List.mem_of_getElem? (i := 126) rfl))) rfl
theorem tk_367 : (Jvm.Cond.methodLink "WordShapes$Reader" 94 y_R_beginsNumber) ∈ GT := gt_t 367 (by decide +kernel) (by decide +kernel)
theorem tk_368 : (Jvm.Cond.static y_R_beginsNumber) ∈ GT := gt_t 368 (by decide +kernel) (by decide +kernel)
set_option maxRecDepth 20000 in
theorem tk_369 : (Jvm.Cond.code y_R_beginsNumber prog_3_method_28_code 1 (Option.some Jvm.ClassFile.FieldType.boolean)) ∈ GT := gt_m (List.mem_append_right _ (List.mem_append_left _ (List.mem_of_getElem? (i := 129) rfl))) rfl
theorem tk_370 : (Jvm.Cond.methodLink "WordShapes$Reader" 67 y_R_fail) ∈ GT := gt_t 370 (by decide +kernel) (by decide +kernel)
theorem tk_372 : (Jvm.Cond.instanceMethod y_R_fail) ∈ GT := gt_t 372 (by decide +kernel) (by decide +kernel)
set_option maxRecDepth 20000 in
theorem tk_373 : (Jvm.Cond.code y_R_fail prog_3_method_24_code 3 (Option.none : Option Jvm.ClassFile.FieldType)) ∈ GT := gt_m (List.mem_append_right _ (List.mem_append_left _ (List.mem_of_getElem? (i := 133) rfl))) rfl
theorem tk_374 : (Jvm.Cond.classLink "WordShapes$Reader" 194 "java/lang/IllegalArgumentException") ∈ GT := gt_t 374 (by decide +kernel) (by decide +kernel)
theorem tq_375 : (Jvm.Cond.stringRef "WordShapes$Reader" 196 "something is wrong in the text") ∈ tables_1 := List.mem_of_getElem? (i := 375) (by decide +kernel)
theorem tk_376 : (Jvm.Cond.methodLink "WordShapes$Reader" 198 y_JIllegalArgumentException_init) ∈ GT := gt_t 376 (by decide +kernel) (by decide +kernel)
theorem tk_377 : (Jvm.Cond.methodLink "WordShapes$Reader" 121 y_R_passLetters) ∈ GT := gt_t 377 (by decide +kernel) (by decide +kernel)
theorem tk_379 : (Jvm.Cond.instanceMethod y_R_passLetters) ∈ GT := gt_t 379 (by decide +kernel) (by decide +kernel)
set_option maxRecDepth 20000 in
theorem tk_380 : (Jvm.Cond.code y_R_passLetters prog_3_method_20_code 1 (Option.none : Option Jvm.ClassFile.FieldType)) ∈ GT := gt_m (List.mem_append_right _ (List.mem_append_left _ (List.mem_of_getElem? (i := 140) rfl))) rfl
theorem tk_381 : (Jvm.Cond.methodLink "WordShapes$Reader" 124 y_R_kindFrom) ∈ GT := gt_t 381 (by decide +kernel) (by decide +kernel)
theorem tk_383 : (Jvm.Cond.instanceMethod y_R_kindFrom) ∈ GT := gt_t 383 (by decide +kernel) (by decide +kernel)
set_option maxRecDepth 20000 in
theorem tk_384 : (Jvm.Cond.code y_R_kindFrom prog_3_method_14_code 3 (Option.some Jvm.ClassFile.FieldType.int)) ∈ GT := gt_m (List.mem_append_right _ (List.mem_append_left _ (List.mem_of_getElem? (i := 144) rfl))) rfl
theorem tq_385 : (Jvm.Cond.methodLinkNest "WordShapes$Reader" 173 y_W_wordOf "WordShapes") ∈ tables_1 := List.mem_of_getElem? (i := 385) (by decide +kernel)
theorem tk_386 : (Jvm.Cond.static y_W_wordOf) ∈ GT := gt_t 386 (by decide +kernel) (by decide +kernel)
set_option maxRecDepth 20000 in
theorem tk_387 : (Jvm.Cond.code y_W_wordOf prog_1_method_15_code 1 (Option.some (Jvm.ClassFile.FieldType.object "java/lang/String"))) ∈ GT := gt_m (List.mem_append_right _ (List.mem_append_left _ (List.mem_of_getElem? (i := 147) rfl))) rfl
theorem tq_388 : (Jvm.Cond.stringRef "WordShapes" 158 "POINT") ∈ tables_1 := List.mem_of_getElem? (i := 388) (by decide +kernel)
theorem tq_389 : (Jvm.Cond.stringRef "WordShapes" 160 "LINESTRING") ∈ tables_1 := List.mem_of_getElem? (i := 389) (by decide +kernel)
theorem tq_390 : (Jvm.Cond.stringRef "WordShapes" 162 "POLYGON") ∈ tables_1 := List.mem_of_getElem? (i := 390) (by decide +kernel)
theorem tq_391 : (Jvm.Cond.stringRef "WordShapes" 164 "MULTIPOINT") ∈ tables_1 := List.mem_of_getElem? (i := 391) (by decide +kernel)
theorem tq_392 : (Jvm.Cond.stringRef "WordShapes" 166 "MULTILINESTRING") ∈ tables_1 := List.mem_of_getElem? (i := 392) (by decide +kernel)
theorem tq_393 : (Jvm.Cond.stringRef "WordShapes" 168 "MULTIPOLYGON") ∈ tables_1 := List.mem_of_getElem? (i := 393) (by decide +kernel)
theorem tq_394 : (Jvm.Cond.stringRef "WordShapes" 170 "GEOMETRYCOLLECTION") ∈ tables_1 := List.mem_of_getElem? (i := 394) (by decide +kernel)
theorem tk_395 : (Jvm.Cond.methodLink "WordShapes$Reader" 177 y_R_isWord) ∈ GT := gt_t 395 (by decide +kernel) (by decide +kernel)
theorem tk_397 : (Jvm.Cond.instanceMethod y_R_isWord) ∈ GT := gt_t 397 (by decide +kernel) (by decide +kernel)
set_option maxRecDepth 20000 in
theorem tk_398 : (Jvm.Cond.code y_R_isWord prog_3_method_16_code 4 (Option.some Jvm.ClassFile.FieldType.boolean)) ∈ GT := gt_m (List.mem_append_right _ (List.mem_append_left _ (List.mem_of_getElem? (i := 158) rfl))) rfl
theorem tk_399 : (Jvm.Cond.methodLink "WordShapes$Reader" 183 y_JString_length) ∈ GT := gt_t 399 (by decide +kernel) (by decide +kernel)
theorem tk_400 : (Jvm.Cond.instanceMethod y_JString_length) ∈ GT := gt_t 400 (by decide +kernel) (by decide +kernel)
theorem tk_401 : (Jvm.Cond.selects "java/lang/String" y_JString_length y_JString_length) ∈ GT := gt_t 401 (by decide +kernel) (by decide +kernel)
set_option maxRecDepth 20000 in
theorem tk_402 : (Jvm.Cond.code y_JString_length prog_14_method_54_code 1 (Option.some Jvm.ClassFile.FieldType.int)) ∈ GT := gt_m (List.mem_append_right _ (List.mem_append_left _ (List.mem_of_getElem? (i := 162) rfl))) rfl
theorem tk_403 : (Jvm.Cond.methodLink "java/lang/String" 335 y_JString_coder) ∈ GT := gt_t 403 (by decide +kernel) (by decide +kernel)
theorem tk_404 : (Jvm.Cond.instanceMethod y_JString_coder) ∈ GT := gt_t 404 (by decide +kernel) (by decide +kernel)
theorem tk_405 : (Jvm.Cond.selects "java/lang/String" y_JString_coder y_JString_coder) ∈ GT := gt_t 405 (by decide +kernel) (by decide +kernel)
set_option maxRecDepth 20000 in
theorem tk_406 : (Jvm.Cond.code y_JString_coder prog_14_method_152_code 1 (Option.some Jvm.ClassFile.FieldType.byte)) ∈ GT := gt_m (List.mem_append_right _ (List.mem_append_left _ (List.mem_of_getElem? (i := 166) rfl))) rfl
theorem tk_407 : (Jvm.Cond.fieldLink "java/lang/String" 38 "java/lang/String" "COMPACT_STRINGS" "Z") ∈ GT := gt_t 407 (by decide +kernel) (by decide +kernel)
theorem tq_408 : (Jvm.Cond.laysStatic "java/lang/String" "COMPACT_STRINGS" "Z") ∈ tables_1 := List.mem_of_getElem? (i := 408) (by decide +kernel)
theorem tk_409 : (Jvm.Cond.methodLink "WordShapes$Reader" 187 y_JString_charAt) ∈ GT := gt_t 409 (by decide +kernel) (by decide +kernel)
theorem tk_410 : (Jvm.Cond.instanceMethod y_JString_charAt) ∈ GT := gt_t 410 (by decide +kernel) (by decide +kernel)
theorem tk_411 : (Jvm.Cond.selects "java/lang/String" y_JString_charAt y_JString_charAt) ∈ GT := gt_t 411 (by decide +kernel) (by decide +kernel)
set_option maxRecDepth 20000 in
theorem tk_412 : (Jvm.Cond.code y_JString_charAt prog_14_method_56_code 2 (Option.some Jvm.ClassFile.FieldType.char)) ∈ GT := gt_m (List.mem_append_right _ (List.mem_append_left _ (List.mem_of_getElem? (i := 172) rfl))) rfl
theorem tk_413 : (Jvm.Cond.methodLink "java/lang/String" 492 y_JString_isLatin1) ∈ GT := gt_t 413 (by decide +kernel) (by decide +kernel)
theorem tk_414 : (Jvm.Cond.instanceMethod y_JString_isLatin1) ∈ GT := gt_t 414 (by decide +kernel) (by decide +kernel)
theorem tk_415 : (Jvm.Cond.selects "java/lang/String" y_JString_isLatin1 y_JString_isLatin1) ∈ GT := gt_t 415 (by decide +kernel) (by decide +kernel)
set_option maxRecDepth 20000 in
theorem tk_416 : (Jvm.Cond.code y_JString_isLatin1 prog_14_method_154_code 1 (Option.some Jvm.ClassFile.FieldType.boolean)) ∈ GT := gt_m (List.mem_append_right _ (List.mem_append_left _ (List.mem_of_getElem? (i := 176) rfl))) rfl
theorem tk_417 : (Jvm.Cond.methodLink "java/lang/String" 495 y_JStringLatin1_charAt) ∈ GT := gt_t 417 (by decide +kernel) (by decide +kernel)
theorem tk_418 : (Jvm.Cond.static y_JStringLatin1_charAt) ∈ GT := gt_t 418 (by decide +kernel) (by decide +kernel)
set_option maxRecDepth 20000 in
theorem tk_419 : (Jvm.Cond.code y_JStringLatin1_charAt prog_15_method_2_code 2 (Option.some Jvm.ClassFile.FieldType.char)) ∈ GT := gt_m (List.mem_append_right _ (List.mem_append_left _ (List.mem_of_getElem? (i := 179) rfl))) rfl
theorem tk_420 : (Jvm.Cond.methodLink "java/lang/StringLatin1" 9 y_JString_checkIndex) ∈ GT := gt_t 420 (by decide +kernel) (by decide +kernel)
theorem tk_421 : (Jvm.Cond.static y_JString_checkIndex) ∈ GT := gt_t 421 (by decide +kernel) (by decide +kernel)
set_option maxRecDepth 20000 in
theorem tk_422 : (Jvm.Cond.code y_JString_checkIndex prog_14_method_155_code 2 (Option.none : Option Jvm.ClassFile.FieldType)) ∈ GT := gt_m (List.mem_append_right _ (List.mem_append_left _ (List.mem_of_getElem? (i := 182) rfl))) rfl
theorem tk_423 : (Jvm.Cond.fieldLink "java/lang/String" 1053 "jdk/internal/util/Preconditions" "SIOOBE_FORMATTER" "Ljava/util/function/BiFunction;") ∈ GT := gt_t 423 (by decide +kernel) (by decide +kernel)
theorem tq_424 : (Jvm.Cond.laysStatic "jdk/internal/util/Preconditions" "SIOOBE_FORMATTER" "Ljava/util/function/BiFunction;") ∈ tables_1 := List.mem_of_getElem? (i := 424) (by decide +kernel)
theorem tk_425 : (Jvm.Cond.methodLink "java/lang/String" 1059 ({ cls := "jdk/internal/util/Preconditions", name := "checkIndex", desc := "(IILjava/util/function/BiFunction;)I" } : Jvm.MethodName)) ∈ GT := gt_t 425 (by decide +kernel) (by decide +kernel)
theorem tk_426 : (Jvm.Cond.static ({ cls := "jdk/internal/util/Preconditions", name := "checkIndex", desc := "(IILjava/util/function/BiFunction;)I" } : Jvm.MethodName)) ∈ GT := gt_t 426 (by decide +kernel) (by decide +kernel)
set_option maxRecDepth 20000 in
theorem tk_427 : (Jvm.Cond.code ({ cls := "jdk/internal/util/Preconditions", name := "checkIndex", desc := "(IILjava/util/function/BiFunction;)I" } : Jvm.MethodName) prog_20_method_11_code 3 (Option.some Jvm.ClassFile.FieldType.int)) ∈ GT := gt_m (List.mem_append_right _ (List.mem_append_left _ (List.mem_of_getElem? (i := 187) rfl))) rfl
theorem tk_428 : (Jvm.Cond.methodLink "java/lang/String" 498 y_JStringUTF16_charAt) ∈ GT := gt_t 428 (by decide +kernel) (by decide +kernel)
theorem tk_429 : (Jvm.Cond.static y_JStringUTF16_charAt) ∈ GT := gt_t 429 (by decide +kernel) (by decide +kernel)
set_option maxRecDepth 20000 in
theorem tk_430 : (Jvm.Cond.code y_JStringUTF16_charAt prog_16_method_83_code 2 (Option.some Jvm.ClassFile.FieldType.char)) ∈ GT := gt_m (List.mem_append_right _ (List.mem_append_left _ (List.mem_of_getElem? (i := 190) rfl))) rfl
theorem tk_431 : (Jvm.Cond.methodLink "java/lang/StringUTF16" 67 y_JStringUTF16_checkIndex) ∈ GT := gt_t 431 (by decide +kernel) (by decide +kernel)
theorem tk_432 : (Jvm.Cond.static y_JStringUTF16_checkIndex) ∈ GT := gt_t 432 (by decide +kernel) (by decide +kernel)
set_option maxRecDepth 20000 in
theorem tk_433 : (Jvm.Cond.code y_JStringUTF16_checkIndex prog_16_method_91_code 2 (Option.none : Option Jvm.ClassFile.FieldType)) ∈ GT := gt_m (List.mem_append_right _ (List.mem_append_left _ (List.mem_of_getElem? (i := 193) rfl))) rfl
theorem tk_434 : (Jvm.Cond.methodLink "java/lang/StringUTF16" 48 y_JStringUTF16_length) ∈ GT := gt_t 434 (by decide +kernel) (by decide +kernel)
theorem tk_435 : (Jvm.Cond.static y_JStringUTF16_length) ∈ GT := gt_t 435 (by decide +kernel) (by decide +kernel)
set_option maxRecDepth 20000 in
theorem tk_436 : (Jvm.Cond.code y_JStringUTF16_length prog_16_method_6_code 1 (Option.some Jvm.ClassFile.FieldType.int)) ∈ GT := gt_m (List.mem_append_right _ (List.mem_append_left _ (List.mem_of_getElem? (i := 196) rfl))) rfl
theorem tk_437 : (Jvm.Cond.methodLink "java/lang/StringUTF16" 414 y_JString_checkIndex) ∈ GT := gt_t 437 (by decide +kernel) (by decide +kernel)
theorem tk_438 : (Jvm.Cond.methodLink "java/lang/StringUTF16" 71 y_JStringUTF16_getChar) ∈ GT := gt_t 438 (by decide +kernel) (by decide +kernel)
theorem tk_439 : (Jvm.Cond.static y_JStringUTF16_getChar) ∈ GT := gt_t 439 (by decide +kernel) (by decide +kernel)
set_option maxRecDepth 20000 in
theorem tk_440 : (Jvm.Cond.code y_JStringUTF16_getChar prog_16_method_5_code 2 (Option.some Jvm.ClassFile.FieldType.char)) ∈ GT := gt_m (List.mem_append_right _ (List.mem_append_left _ (List.mem_of_getElem? (i := 200) rfl))) rfl
theorem tk_441 : (Jvm.Cond.fieldLink "java/lang/StringUTF16" 44 "java/lang/StringUTF16" "$assertionsDisabled" "Z") ∈ GT := gt_t 441 (by decide +kernel) (by decide +kernel)
theorem tq_442 : (Jvm.Cond.laysStatic "java/lang/StringUTF16" "$assertionsDisabled" "Z") ∈ tables_1 := List.mem_of_getElem? (i := 442) (by decide +kernel)
theorem tk_443 : (Jvm.Cond.fieldLink "java/lang/StringUTF16" 59 "java/lang/StringUTF16" "HI_BYTE_SHIFT" "I") ∈ GT := gt_t 443 (by decide +kernel) (by decide +kernel)
theorem tq_444 : (Jvm.Cond.laysStatic "java/lang/StringUTF16" "HI_BYTE_SHIFT" "I") ∈ tables_1 := List.mem_of_getElem? (i := 444) (by decide +kernel)
theorem tk_445 : (Jvm.Cond.fieldLink "java/lang/StringUTF16" 63 "java/lang/StringUTF16" "LO_BYTE_SHIFT" "I") ∈ GT := gt_t 445 (by decide +kernel) (by decide +kernel)
theorem tq_446 : (Jvm.Cond.laysStatic "java/lang/StringUTF16" "LO_BYTE_SHIFT" "I") ∈ tables_1 := List.mem_of_getElem? (i := 446) (by decide +kernel)
theorem tk_447 : (Jvm.Cond.methodLink "WordShapes$Reader" 84 y_R_keepKind) ∈ GT := gt_t 447 (by decide +kernel) (by decide +kernel)
theorem tk_449 : (Jvm.Cond.instanceMethod y_R_keepKind) ∈ GT := gt_t 449 (by decide +kernel) (by decide +kernel)
set_option maxRecDepth 20000 in
theorem tk_450 : (Jvm.Cond.code y_R_keepKind prog_3_method_6_code 2 (Option.none : Option Jvm.ClassFile.FieldType)) ∈ GT := gt_m (List.mem_append_right _ (List.mem_append_left _ (List.mem_of_getElem? (i := 210) rfl))) rfl
theorem tk_451 : (Jvm.Cond.methodLink "WordShapes$Reader" 128 y_S_hasRoomFor) ∈ GT := gt_t 451 (by decide +kernel) (by decide +kernel)
theorem tk_452 : (Jvm.Cond.instanceMethod y_S_hasRoomFor) ∈ GT := gt_t 452 (by decide +kernel) (by decide +kernel)
theorem tk_453 : (Jvm.Cond.selects "WordShapes$Shape" y_S_hasRoomFor y_S_hasRoomFor) ∈ GT := gt_t 453 (by decide +kernel) (by decide +kernel)
set_option maxRecDepth 20000 in
theorem tk_454 : (Jvm.Cond.code y_S_hasRoomFor prog_4_method_4_code 2 (Option.some Jvm.ClassFile.FieldType.boolean)) ∈ GT := gt_m (List.mem_append_right _ (List.mem_append_left _ (List.mem_of_getElem? (i := 214) rfl))) rfl
theorem tk_455 : (Jvm.Cond.methodLink "WordShapes$Reader" 131 y_S_addNumber) ∈ GT := gt_t 455 (by decide +kernel) (by decide +kernel)
theorem tk_456 : (Jvm.Cond.instanceMethod y_S_addNumber) ∈ GT := gt_t 456 (by decide +kernel) (by decide +kernel)
theorem tk_457 : (Jvm.Cond.selects "WordShapes$Shape" y_S_addNumber y_S_addNumber) ∈ GT := gt_t 457 (by decide +kernel) (by decide +kernel)
set_option maxRecDepth 20000 in
theorem tk_458 : (Jvm.Cond.code y_S_addNumber prog_4_method_6_code 2 (Option.none : Option Jvm.ClassFile.FieldType)) ∈ GT := gt_m (List.mem_append_right _ (List.mem_append_left _ (List.mem_of_getElem? (i := 218) rfl))) rfl
theorem tk_459 : (Jvm.Cond.methodLink "WordShapes$Reader" 87 y_R_opensBracket) ∈ GT := gt_t 459 (by decide +kernel) (by decide +kernel)
theorem tk_461 : (Jvm.Cond.instanceMethod y_R_opensBracket) ∈ GT := gt_t 461 (by decide +kernel) (by decide +kernel)
set_option maxRecDepth 20000 in
theorem tk_462 : (Jvm.Cond.code y_R_opensBracket prog_3_method_7_code 2 (Option.some Jvm.ClassFile.FieldType.boolean)) ∈ GT := gt_m (List.mem_append_right _ (List.mem_append_left _ (List.mem_of_getElem? (i := 222) rfl))) rfl
theorem tk_463 : (Jvm.Cond.methodLink "WordShapes$Reader" 134 y_R_passEmpty) ∈ GT := gt_t 463 (by decide +kernel) (by decide +kernel)
theorem tk_465 : (Jvm.Cond.instanceMethod y_R_passEmpty) ∈ GT := gt_t 465 (by decide +kernel) (by decide +kernel)
set_option maxRecDepth 20000 in
theorem tk_466 : (Jvm.Cond.code y_R_passEmpty prog_3_method_15_code 2 (Option.none : Option Jvm.ClassFile.FieldType)) ∈ GT := gt_m (List.mem_append_right _ (List.mem_append_left _ (List.mem_of_getElem? (i := 226) rfl))) rfl
theorem tq_467 : (Jvm.Cond.stringRef "WordShapes$Reader" 181 "EMPTY") ∈ tables_1 := List.mem_of_getElem? (i := 467) (by decide +kernel)
theorem tk_468 : (Jvm.Cond.methodLink "WordShapes$Reader" 109 y_R_pass) ∈ GT := gt_t 468 (by decide +kernel) (by decide +kernel)
theorem tk_470 : (Jvm.Cond.instanceMethod y_R_pass) ∈ GT := gt_t 470 (by decide +kernel) (by decide +kernel)
set_option maxRecDepth 20000 in
theorem tk_471 : (Jvm.Cond.code y_R_pass prog_3_method_17_code 2 (Option.none : Option Jvm.ClassFile.FieldType)) ∈ GT := gt_m (List.mem_append_right _ (List.mem_append_left _ (List.mem_of_getElem? (i := 231) rfl))) rfl
theorem tk_472 : (Jvm.Cond.methodLink "WordShapes$Reader" 137 y_B_open) ∈ GT := gt_t 472 (by decide +kernel) (by decide +kernel)
theorem tk_473 : (Jvm.Cond.instanceMethod y_B_open) ∈ GT := gt_t 473 (by decide +kernel) (by decide +kernel)
theorem tk_474 : (Jvm.Cond.selects "WordShapes$Brackets" y_B_open y_B_open) ∈ GT := gt_t 474 (by decide +kernel) (by decide +kernel)
set_option maxRecDepth 20000 in
theorem tk_475 : (Jvm.Cond.code y_B_open prog_2_method_3_code 3 (Option.none : Option Jvm.ClassFile.FieldType)) ∈ GT := gt_m (List.mem_append_right _ (List.mem_append_left _ (List.mem_of_getElem? (i := 235) rfl))) rfl
theorem tk_476 : (Jvm.Cond.methodLink "WordShapes$Reader" 100 y_R_readPoint) ∈ GT := gt_t 476 (by decide +kernel) (by decide +kernel)
theorem tk_478 : (Jvm.Cond.instanceMethod y_R_readPoint) ∈ GT := gt_t 478 (by decide +kernel) (by decide +kernel)
set_option maxRecDepth 20000 in
theorem tk_479 : (Jvm.Cond.code y_R_readPoint prog_3_method_9_code 3 (Option.none : Option Jvm.ClassFile.FieldType)) ∈ GT := gt_m (List.mem_append_right _ (List.mem_append_left _ (List.mem_of_getElem? (i := 239) rfl))) rfl
theorem tk_480 : (Jvm.Cond.methodLink "WordShapes$Reader" 139 y_S_hasRoomForPoint) ∈ GT := gt_t 480 (by decide +kernel) (by decide +kernel)
theorem tk_481 : (Jvm.Cond.instanceMethod y_S_hasRoomForPoint) ∈ GT := gt_t 481 (by decide +kernel) (by decide +kernel)
theorem tk_482 : (Jvm.Cond.selects "WordShapes$Shape" y_S_hasRoomForPoint y_S_hasRoomForPoint) ∈ GT := gt_t 482 (by decide +kernel) (by decide +kernel)
set_option maxRecDepth 20000 in
theorem tk_483 : (Jvm.Cond.code y_S_hasRoomForPoint prog_4_method_5_code 1 (Option.some Jvm.ClassFile.FieldType.boolean)) ∈ GT := gt_m (List.mem_append_right _ (List.mem_append_right _ (List.mem_append_left _ (List.mem_of_getElem? (i := 3) rfl)))) rfl
theorem tk_484 : (Jvm.Cond.methodLink "WordShapes$Reader" 142 y_R_readNumber) ∈ GT := gt_t 484 (by decide +kernel) (by decide +kernel)
theorem tk_486 : (Jvm.Cond.instanceMethod y_R_readNumber) ∈ GT := gt_t 486 (by decide +kernel) (by decide +kernel)
set_option maxRecDepth 20000 in
theorem tk_487 : (Jvm.Cond.code y_R_readNumber prog_3_method_10_code 10 (Option.some Jvm.ClassFile.FieldType.int)) ∈ GT := gt_m (List.mem_append_right _ (List.mem_append_right _ (List.mem_append_left _ (List.mem_of_getElem? (i := 7) rfl)))) rfl
theorem tk_488 : (Jvm.Cond.methodLink "WordShapes$Reader" 148 y_R_passSign) ∈ GT := gt_t 488 (by decide +kernel) (by decide +kernel)
theorem tk_490 : (Jvm.Cond.instanceMethod y_R_passSign) ∈ GT := gt_t 490 (by decide +kernel) (by decide +kernel)
set_option maxRecDepth 20000 in
theorem tk_491 : (Jvm.Cond.code y_R_passSign prog_3_method_18_code 1 (Option.none : Option Jvm.ClassFile.FieldType)) ∈ GT := gt_m (List.mem_append_right _ (List.mem_append_right _ (List.mem_append_left _ (List.mem_of_getElem? (i := 11) rfl)))) rfl
theorem tk_492 : (Jvm.Cond.methodLink "WordShapes$Reader" 151 y_R_passDigits) ∈ GT := gt_t 492 (by decide +kernel) (by decide +kernel)
theorem tk_494 : (Jvm.Cond.instanceMethod y_R_passDigits) ∈ GT := gt_t 494 (by decide +kernel) (by decide +kernel)
set_option maxRecDepth 20000 in
theorem tk_495 : (Jvm.Cond.code y_R_passDigits prog_3_method_19_code 2 (Option.some Jvm.ClassFile.FieldType.int)) ∈ GT := gt_m (List.mem_append_right _ (List.mem_append_right _ (List.mem_append_left _ (List.mem_of_getElem? (i := 15) rfl)))) rfl
theorem tk_496 : (Jvm.Cond.methodLink "WordShapes$Reader" 163 y_R_isDigit) ∈ GT := gt_t 496 (by decide +kernel) (by decide +kernel)
theorem tk_497 : (Jvm.Cond.static y_R_isDigit) ∈ GT := gt_t 497 (by decide +kernel) (by decide +kernel)
set_option maxRecDepth 20000 in
theorem tk_498 : (Jvm.Cond.code y_R_isDigit prog_3_method_27_code 1 (Option.some Jvm.ClassFile.FieldType.boolean)) ∈ GT := gt_m (List.mem_append_right _ (List.mem_append_right _ (List.mem_append_left _ (List.mem_of_getElem? (i := 18) rfl)))) rfl
theorem tk_499 : (Jvm.Cond.methodLink "WordShapes$Reader" 154 y_R_readExponent) ∈ GT := gt_t 499 (by decide +kernel) (by decide +kernel)
theorem tk_501 : (Jvm.Cond.instanceMethod y_R_readExponent) ∈ GT := gt_t 501 (by decide +kernel) (by decide +kernel)
set_option maxRecDepth 20000 in
theorem tk_502 : (Jvm.Cond.code y_R_readExponent prog_3_method_11_code 5 (Option.some Jvm.ClassFile.FieldType.int)) ∈ GT := gt_m (List.mem_append_right _ (List.mem_append_right _ (List.mem_append_left _ (List.mem_of_getElem? (i := 22) rfl)))) rfl
theorem tk_503 : (Jvm.Cond.constant "WordShapes$Reader" 166 (1000000 : Int32)) ∈ GT := gt_t 503 (by decide +kernel) (by decide +kernel)
theorem tk_504 : (Jvm.Cond.methodLink "WordShapes$Reader" 157 y_R_roundedUnits) ∈ GT := gt_t 504 (by decide +kernel) (by decide +kernel)
theorem tk_506 : (Jvm.Cond.instanceMethod y_R_roundedUnits) ∈ GT := gt_t 506 (by decide +kernel) (by decide +kernel)
set_option maxRecDepth 20000 in
theorem tk_507 : (Jvm.Cond.code y_R_roundedUnits prog_3_method_12_code 11 (Option.some Jvm.ClassFile.FieldType.long)) ∈ GT := gt_m (List.mem_append_right _ (List.mem_append_right _ (List.mem_append_left _ (List.mem_of_getElem? (i := 27) rfl)))) rfl
theorem tk_508 : (Jvm.Cond.methodLink "WordShapes$Reader" 167 y_R_tenfold) ∈ GT := gt_t 508 (by decide +kernel) (by decide +kernel)
theorem tk_509 : (Jvm.Cond.static y_R_tenfold) ∈ GT := gt_t 509 (by decide +kernel) (by decide +kernel)
set_option maxRecDepth 20000 in
theorem tk_510 : (Jvm.Cond.code y_R_tenfold prog_3_method_13_code 2 (Option.some Jvm.ClassFile.FieldType.long)) ∈ GT := gt_m (List.mem_append_right _ (List.mem_append_right _ (List.mem_append_left _ (List.mem_of_getElem? (i := 30) rfl)))) rfl
theorem tk_511 : (Jvm.Cond.constantLong "WordShapes$Reader" 161 (1000000000 : Int64)) ∈ GT := gt_t 511 (by decide +kernel) (by decide +kernel)
theorem tk_512 : (Jvm.Cond.constantLong "WordShapes$Reader" 171 (10 : Int64)) ∈ GT := gt_t 512 (by decide +kernel) (by decide +kernel)
theorem tk_513 : (Jvm.Cond.methodLink "WordShapes$Reader" 145 y_S_addPoint) ∈ GT := gt_t 513 (by decide +kernel) (by decide +kernel)
theorem tk_514 : (Jvm.Cond.instanceMethod y_S_addPoint) ∈ GT := gt_t 514 (by decide +kernel) (by decide +kernel)
theorem tk_515 : (Jvm.Cond.selects "WordShapes$Shape" y_S_addPoint y_S_addPoint) ∈ GT := gt_t 515 (by decide +kernel) (by decide +kernel)
set_option maxRecDepth 20000 in
theorem tk_516 : (Jvm.Cond.code y_S_addPoint prog_4_method_7_code 3 (Option.none : Option Jvm.ClassFile.FieldType)) ∈ GT := gt_m (List.mem_append_right _ (List.mem_append_right _ (List.mem_append_left _ (List.mem_of_getElem? (i := 36) rfl)))) rfl
theorem tk_517 : (Jvm.Cond.methodLink "WordShapes$Shape" 23 y_S_hasRoomForPoint) ∈ GT := gt_t 517 (by decide +kernel) (by decide +kernel)
theorem tk_518 : (Jvm.Cond.methodLink "WordShapes$Reader" 103 y_R_opensRing) ∈ GT := gt_t 518 (by decide +kernel) (by decide +kernel)
theorem tk_520 : (Jvm.Cond.instanceMethod y_R_opensRing) ∈ GT := gt_t 520 (by decide +kernel) (by decide +kernel)
set_option maxRecDepth 20000 in
theorem tk_521 : (Jvm.Cond.code y_R_opensRing prog_3_method_8_code 1 (Option.some Jvm.ClassFile.FieldType.boolean)) ∈ GT := gt_m (List.mem_append_right _ (List.mem_append_right _ (List.mem_append_left _ (List.mem_of_getElem? (i := 41) rfl)))) rfl
theorem tk_522 : (Jvm.Cond.methodLink "WordShapes$Reader" 61 y_R_goesOn) ∈ GT := gt_t 522 (by decide +kernel) (by decide +kernel)
theorem tk_524 : (Jvm.Cond.instanceMethod y_R_goesOn) ∈ GT := gt_t 524 (by decide +kernel) (by decide +kernel)
set_option maxRecDepth 20000 in
theorem tk_525 : (Jvm.Cond.code y_R_goesOn prog_3_method_4_code 2 (Option.some Jvm.ClassFile.FieldType.boolean)) ∈ GT := gt_m (List.mem_append_right _ (List.mem_append_right _ (List.mem_append_left _ (List.mem_of_getElem? (i := 45) rfl)))) rfl
theorem tk_526 : (Jvm.Cond.methodLink "WordShapes$Reader" 112 y_B_close) ∈ GT := gt_t 526 (by decide +kernel) (by decide +kernel)
theorem tk_527 : (Jvm.Cond.instanceMethod y_B_close) ∈ GT := gt_t 527 (by decide +kernel) (by decide +kernel)
theorem tk_528 : (Jvm.Cond.selects "WordShapes$Brackets" y_B_close y_B_close) ∈ GT := gt_t 528 (by decide +kernel) (by decide +kernel)
set_option maxRecDepth 20000 in
theorem tk_529 : (Jvm.Cond.code y_B_close prog_2_method_4_code 1 (Option.none : Option Jvm.ClassFile.FieldType)) ∈ GT := gt_m (List.mem_append_right _ (List.mem_append_right _ (List.mem_append_left _ (List.mem_of_getElem? (i := 49) rfl)))) rfl
theorem tk_530 : (Jvm.Cond.methodLink "WordShapes" 86 y_S_takeFrom) ∈ GT := gt_t 530 (by decide +kernel) (by decide +kernel)
theorem tk_531 : (Jvm.Cond.instanceMethod y_S_takeFrom) ∈ GT := gt_t 531 (by decide +kernel) (by decide +kernel)
theorem tk_532 : (Jvm.Cond.selects "WordShapes$Shape" y_S_takeFrom y_S_takeFrom) ∈ GT := gt_t 532 (by decide +kernel) (by decide +kernel)
set_option maxRecDepth 20000 in
theorem tk_533 : (Jvm.Cond.code y_S_takeFrom prog_4_method_11_code 3 (Option.none : Option Jvm.ClassFile.FieldType)) ∈ GT := gt_m (List.mem_append_right _ (List.mem_append_right _ (List.mem_append_left _ (List.mem_of_getElem? (i := 53) rfl)))) rfl
theorem tk_534 : (Jvm.Cond.methodLink "WordShapes$Shape" 27 y_S_clear) ∈ GT := gt_t 534 (by decide +kernel) (by decide +kernel)
theorem tk_535 : (Jvm.Cond.methodLink "WordShapes$Shape" 30 y_S_addNumber) ∈ GT := gt_t 535 (by decide +kernel) (by decide +kernel)
theorem tk_536 : (Jvm.Cond.methodLink "WordShapes$Shape" 34 y_S_addPoint) ∈ GT := gt_t 536 (by decide +kernel) (by decide +kernel)
theorem tk_537 : (Jvm.Cond.methodLink "WordShapes" 90 y_S_numberAt) ∈ GT := gt_t 537 (by decide +kernel) (by decide +kernel)
theorem tk_538 : (Jvm.Cond.instanceMethod y_S_numberAt) ∈ GT := gt_t 538 (by decide +kernel) (by decide +kernel)
theorem tk_539 : (Jvm.Cond.selects "WordShapes$Shape" y_S_numberAt y_S_numberAt) ∈ GT := gt_t 539 (by decide +kernel) (by decide +kernel)
set_option maxRecDepth 20000 in
theorem tk_540 : (Jvm.Cond.code y_S_numberAt prog_4_method_9_code 2 (Option.some Jvm.ClassFile.FieldType.int)) ∈ GT := gt_m (List.mem_append_right _ (List.mem_append_right _ (List.mem_append_left _ (List.mem_of_getElem? (i := 60) rfl)))) rfl
theorem tk_541 : (Jvm.Cond.methodLink "WordShapesLaw" 79 y_L_fault) ∈ GT := gt_t 541 (by decide +kernel) (by decide +kernel)
theorem tk_542 : (Jvm.Cond.static y_L_fault) ∈ GT := gt_t 542 (by decide +kernel) (by decide +kernel)
set_option maxRecDepth 20000 in
theorem tq_543 : (Jvm.Cond.codeWith y_L_fault method_6_code 4 (Option.some Jvm.ClassFile.FieldType.int) [(0, 9, 12, 24)]) ∈ tables_1 := List.mem_append_right _ (List.mem_append_right _ (List.mem_append_left _ (List.mem_of_getElem? (i := 63) rfl)))
theorem tk_544 : (Jvm.Cond.methodLink "WordShapesLaw" 26 y_W_fault) ∈ GT := gt_t 544 (by decide +kernel) (by decide +kernel)
theorem tk_545 : (Jvm.Cond.instanceMethod y_W_fault) ∈ GT := gt_t 545 (by decide +kernel) (by decide +kernel)
theorem tk_546 : (Jvm.Cond.selects "WordShapes" y_W_fault y_W_fault) ∈ GT := gt_t 546 (by decide +kernel) (by decide +kernel)
set_option maxRecDepth 20000 in
theorem tk_547 : (Jvm.Cond.code y_W_fault prog_1_method_5_code 2 (Option.some Jvm.ClassFile.FieldType.int)) ∈ GT := gt_m (List.mem_append_right _ (List.mem_append_right _ (List.mem_append_left _ (List.mem_of_getElem? (i := 67) rfl)))) rfl
theorem tq_548 : (Jvm.Cond.stringRef "WordShapes" 102 "a fault has 0 and 1") ∈ tables_1 := List.mem_of_getElem? (i := 548) (by decide +kernel)
theorem tk_549 : (Jvm.Cond.methodLink "WordShapesLaw" 82 y_L_write) ∈ GT := gt_t 549 (by decide +kernel) (by decide +kernel)
theorem tk_550 : (Jvm.Cond.static y_L_write) ∈ GT := gt_t 550 (by decide +kernel) (by decide +kernel)
set_option maxRecDepth 20000 in
theorem tq_551 : (Jvm.Cond.codeWith y_L_write method_7_code 4 (Option.some Jvm.ClassFile.FieldType.int) [(0, 9, 12, 24), (0, 9, 15, 13), (0, 9, 18, 32)]) ∈ tables_1 := List.mem_append_right _ (List.mem_append_right _ (List.mem_append_left _ (List.mem_of_getElem? (i := 71) rfl)))
theorem tk_552 : (Jvm.Cond.classLink "WordShapesLaw" 32 "java/lang/UnsupportedOperationException") ∈ GT := gt_t 552 (by decide +kernel) (by decide +kernel)
theorem tk_553 : (Jvm.Cond.methodLink "WordShapesLaw" 29 y_W_write) ∈ GT := gt_t 553 (by decide +kernel) (by decide +kernel)
theorem tk_554 : (Jvm.Cond.instanceMethod y_W_write) ∈ GT := gt_t 554 (by decide +kernel) (by decide +kernel)
theorem tk_555 : (Jvm.Cond.selects "WordShapes" y_W_write y_W_write) ∈ GT := gt_t 555 (by decide +kernel) (by decide +kernel)
set_option maxRecDepth 20000 in
theorem tk_556 : (Jvm.Cond.code y_W_write prog_1_method_6_code 3 (Option.some Jvm.ClassFile.FieldType.int)) ∈ GT := gt_m (List.mem_append_right _ (List.mem_append_right _ (List.mem_append_left _ (List.mem_of_getElem? (i := 76) rfl)))) rfl
theorem tk_557 : (Jvm.Cond.methodLink "WordShapes" 105 y_S_isNone) ∈ GT := gt_t 557 (by decide +kernel) (by decide +kernel)
theorem tk_558 : (Jvm.Cond.instanceMethod y_S_isNone) ∈ GT := gt_t 558 (by decide +kernel) (by decide +kernel)
theorem tk_559 : (Jvm.Cond.selects "WordShapes$Shape" y_S_isNone y_S_isNone) ∈ GT := gt_t 559 (by decide +kernel) (by decide +kernel)
set_option maxRecDepth 20000 in
theorem tk_560 : (Jvm.Cond.code y_S_isNone prog_4_method_3_code 1 (Option.some Jvm.ClassFile.FieldType.boolean)) ∈ GT := gt_m (List.mem_append_right _ (List.mem_append_right _ (List.mem_append_left _ (List.mem_of_getElem? (i := 80) rfl)))) rfl
theorem tq_561 : (Jvm.Cond.stringRef "WordShapes" 109 "the slot has no shape") ∈ tables_1 := List.mem_of_getElem? (i := 561) (by decide +kernel)
theorem tk_562 : (Jvm.Cond.methodLink "WordShapes" 111 y_T_lay) ∈ GT := gt_t 562 (by decide +kernel) (by decide +kernel)
theorem tk_563 : (Jvm.Cond.instanceMethod y_T_lay) ∈ GT := gt_t 563 (by decide +kernel) (by decide +kernel)
theorem tk_564 : (Jvm.Cond.selects "WordShapes$Writer" y_T_lay y_T_lay) ∈ GT := gt_t 564 (by decide +kernel) (by decide +kernel)
set_option maxRecDepth 20000 in
theorem tk_565 : (Jvm.Cond.code y_T_lay prog_5_method_2_code 5 (Option.some Jvm.ClassFile.FieldType.int)) ∈ GT := gt_m (List.mem_append_right _ (List.mem_append_right _ (List.mem_append_left _ (List.mem_of_getElem? (i := 85) rfl)))) rfl
theorem tk_566 : (Jvm.Cond.methodLink "WordShapes$Writer" 47 y_B_start) ∈ GT := gt_t 566 (by decide +kernel) (by decide +kernel)
theorem tk_567 : (Jvm.Cond.methodLink "WordShapes$Writer" 62 y_B_number) ∈ GT := gt_t 567 (by decide +kernel) (by decide +kernel)
theorem tk_568 : (Jvm.Cond.methodLink "WordShapes$Writer" 66 y_T_layItem) ∈ GT := gt_t 568 (by decide +kernel) (by decide +kernel)
theorem tk_570 : (Jvm.Cond.instanceMethod y_T_layItem) ∈ GT := gt_t 570 (by decide +kernel) (by decide +kernel)
set_option maxRecDepth 20000 in
theorem tk_571 : (Jvm.Cond.code y_T_layItem prog_5_method_3_code 2 (Option.none : Option Jvm.ClassFile.FieldType)) ∈ GT := gt_m (List.mem_append_right _ (List.mem_append_right _ (List.mem_append_left _ (List.mem_of_getElem? (i := 91) rfl)))) rfl
theorem tk_572 : (Jvm.Cond.methodLink "WordShapes$Writer" 70 y_T_put) ∈ GT := gt_t 572 (by decide +kernel) (by decide +kernel)
theorem tk_574 : (Jvm.Cond.instanceMethod y_T_put) ∈ GT := gt_t 574 (by decide +kernel) (by decide +kernel)
set_option maxRecDepth 20000 in
theorem tk_575 : (Jvm.Cond.code y_T_put prog_5_method_9_code 2 (Option.none : Option Jvm.ClassFile.FieldType)) ∈ GT := gt_m (List.mem_append_right _ (List.mem_append_right _ (List.mem_append_left _ (List.mem_of_getElem? (i := 95) rfl)))) rfl
theorem tk_576 : (Jvm.Cond.methodLink "WordShapes$Writer" 76 y_B_lessOne) ∈ GT := gt_t 576 (by decide +kernel) (by decide +kernel)
theorem tk_577 : (Jvm.Cond.instanceMethod y_B_lessOne) ∈ GT := gt_t 577 (by decide +kernel) (by decide +kernel)
theorem tk_578 : (Jvm.Cond.selects "WordShapes$Brackets" y_B_lessOne y_B_lessOne) ∈ GT := gt_t 578 (by decide +kernel) (by decide +kernel)
set_option maxRecDepth 20000 in
theorem tk_579 : (Jvm.Cond.code y_B_lessOne prog_2_method_7_code 1 (Option.none : Option Jvm.ClassFile.FieldType)) ∈ GT := gt_m (List.mem_append_right _ (List.mem_append_right _ (List.mem_append_left _ (List.mem_of_getElem? (i := 99) rfl)))) rfl
theorem tk_580 : (Jvm.Cond.methodLink "WordShapes$Writer" 79 y_B_kind) ∈ GT := gt_t 580 (by decide +kernel) (by decide +kernel)
theorem tk_581 : (Jvm.Cond.methodLink "WordShapes$Writer" 82 y_S_numberAt) ∈ GT := gt_t 581 (by decide +kernel) (by decide +kernel)
theorem tq_582 : (Jvm.Cond.methodLinkNest "WordShapes$Writer" 86 y_W_wordOf "WordShapes") ∈ tables_1 := List.mem_of_getElem? (i := 582) (by decide +kernel)
theorem tk_583 : (Jvm.Cond.methodLink "WordShapes$Writer" 90 y_T_layWord) ∈ GT := gt_t 583 (by decide +kernel) (by decide +kernel)
theorem tk_585 : (Jvm.Cond.instanceMethod y_T_layWord) ∈ GT := gt_t 585 (by decide +kernel) (by decide +kernel)
set_option maxRecDepth 20000 in
theorem tk_586 : (Jvm.Cond.code y_T_layWord prog_5_method_8_code 3 (Option.none : Option Jvm.ClassFile.FieldType)) ∈ GT := gt_m (List.mem_append_right _ (List.mem_append_right _ (List.mem_append_left _ (List.mem_of_getElem? (i := 106) rfl)))) rfl
theorem tk_587 : (Jvm.Cond.methodLink "WordShapes$Writer" 116 y_JString_length) ∈ GT := gt_t 587 (by decide +kernel) (by decide +kernel)
theorem tk_588 : (Jvm.Cond.methodLink "WordShapes$Writer" 121 y_JString_charAt) ∈ GT := gt_t 588 (by decide +kernel) (by decide +kernel)
theorem tk_589 : (Jvm.Cond.methodLink "WordShapes$Writer" 94 y_T_takeNumber) ∈ GT := gt_t 589 (by decide +kernel) (by decide +kernel)
theorem tk_591 : (Jvm.Cond.instanceMethod y_T_takeNumber) ∈ GT := gt_t 591 (by decide +kernel) (by decide +kernel)
set_option maxRecDepth 20000 in
theorem tk_592 : (Jvm.Cond.code y_T_takeNumber prog_5_method_4_code 3 (Option.some Jvm.ClassFile.FieldType.int)) ∈ GT := gt_m (List.mem_append_right _ (List.mem_append_right _ (List.mem_append_left _ (List.mem_of_getElem? (i := 112) rfl)))) rfl
theorem tk_593 : (Jvm.Cond.methodLink "WordShapes$Writer" 98 y_T_layBody) ∈ GT := gt_t 593 (by decide +kernel) (by decide +kernel)
theorem tk_595 : (Jvm.Cond.instanceMethod y_T_layBody) ∈ GT := gt_t 595 (by decide +kernel) (by decide +kernel)
set_option maxRecDepth 20000 in
theorem tk_596 : (Jvm.Cond.code y_T_layBody prog_5_method_5_code 3 (Option.none : Option Jvm.ClassFile.FieldType)) ∈ GT := gt_m (List.mem_append_right _ (List.mem_append_right _ (List.mem_append_left _ (List.mem_of_getElem? (i := 116) rfl)))) rfl
theorem tq_597 : (Jvm.Cond.stringRef "WordShapes$Writer" 105 "EMPTY") ∈ tables_1 := List.mem_of_getElem? (i := 597) (by decide +kernel)
theorem tk_598 : (Jvm.Cond.methodLink "WordShapes$Writer" 107 y_B_open) ∈ GT := gt_t 598 (by decide +kernel) (by decide +kernel)
theorem tk_599 : (Jvm.Cond.methodLink "WordShapes$Writer" 102 y_T_layPoint) ∈ GT := gt_t 599 (by decide +kernel) (by decide +kernel)
theorem tk_601 : (Jvm.Cond.instanceMethod y_T_layPoint) ∈ GT := gt_t 601 (by decide +kernel) (by decide +kernel)
set_option maxRecDepth 20000 in
theorem tk_602 : (Jvm.Cond.code y_T_layPoint prog_5_method_6_code 2 (Option.none : Option Jvm.ClassFile.FieldType)) ∈ GT := gt_m (List.mem_append_right _ (List.mem_append_right _ (List.mem_append_left _ (List.mem_of_getElem? (i := 122) rfl)))) rfl
theorem tk_603 : (Jvm.Cond.methodLink "WordShapes$Writer" 109 y_S_ordinateAt) ∈ GT := gt_t 603 (by decide +kernel) (by decide +kernel)
theorem tk_604 : (Jvm.Cond.instanceMethod y_S_ordinateAt) ∈ GT := gt_t 604 (by decide +kernel) (by decide +kernel)
theorem tk_605 : (Jvm.Cond.selects "WordShapes$Shape" y_S_ordinateAt y_S_ordinateAt) ∈ GT := gt_t 605 (by decide +kernel) (by decide +kernel)
set_option maxRecDepth 20000 in
theorem tk_606 : (Jvm.Cond.code y_S_ordinateAt prog_4_method_10_code 3 (Option.some Jvm.ClassFile.FieldType.int)) ∈ GT := gt_m (List.mem_append_right _ (List.mem_append_right _ (List.mem_append_left _ (List.mem_of_getElem? (i := 126) rfl)))) rfl
theorem tk_607 : (Jvm.Cond.methodLink "WordShapes$Writer" 113 y_T_layNumber) ∈ GT := gt_t 607 (by decide +kernel) (by decide +kernel)
theorem tk_609 : (Jvm.Cond.instanceMethod y_T_layNumber) ∈ GT := gt_t 609 (by decide +kernel) (by decide +kernel)
set_option maxRecDepth 20000 in
theorem tk_610 : (Jvm.Cond.code y_T_layNumber prog_5_method_7_code 6 (Option.none : Option Jvm.ClassFile.FieldType)) ∈ GT := gt_m (List.mem_append_right _ (List.mem_append_right _ (List.mem_append_left _ (List.mem_of_getElem? (i := 130) rfl)))) rfl
theorem tk_611 : (Jvm.Cond.methodLink "WordShapes$Writer" 73 y_B_close) ∈ GT := gt_t 611 (by decide +kernel) (by decide +kernel)
theorem tk_612 : (Jvm.Cond.constant "WordShapes" 115 (131072 : Int32)) ∈ GT := gt_t 612 (by decide +kernel) (by decide +kernel)
theorem tk_613 : (Jvm.Cond.classLink "WordShapes" 116 "java/lang/UnsupportedOperationException") ∈ GT := gt_t 613 (by decide +kernel) (by decide +kernel)
theorem tk_614 : (Jvm.Cond.instantiable "java/lang/UnsupportedOperationException" 6) ∈ GT := gt_t 614 (by decide +kernel) (by decide +kernel)
theorem tq_615 : (Jvm.Cond.castable "java/lang/UnsupportedOperationException" "java/lang/UnsupportedOperationException") ∈ tables_1 := List.mem_of_getElem? (i := 615) (by decide +kernel)
theorem tk_616 : (Jvm.Cond.selects "java/lang/UnsupportedOperationException" ({ cls := "java/lang/Throwable", name := "fillInStackTrace", desc := "(I)Ljava/lang/Throwable;" } : Jvm.MethodName) ({ cls := "java/lang/Throwable", name := "fillInStackTrace", desc := "(I)Ljava/lang/Throwable;" } : Jvm.MethodName)) ∈ GT := gt_t 616 (by decide +kernel) (by decide +kernel)
theorem tk_617 : (Jvm.Cond.lays "java/lang/UnsupportedOperationException" "java/lang/Throwable" "cause" "Ljava/lang/Throwable;") ∈ GT := gt_t 617 (by decide +kernel) (by decide +kernel)
theorem tk_618 : (Jvm.Cond.lays "java/lang/UnsupportedOperationException" "java/lang/Throwable" "stackTrace" "[Ljava/lang/StackTraceElement;") ∈ GT := gt_t 618 (by decide +kernel) (by decide +kernel)
theorem tk_619 : (Jvm.Cond.lays "java/lang/UnsupportedOperationException" "java/lang/Throwable" "suppressedExceptions" "Ljava/util/List;") ∈ GT := gt_t 619 (by decide +kernel) (by decide +kernel)
theorem tk_620 : (Jvm.Cond.lays "java/lang/UnsupportedOperationException" "java/lang/Throwable" "detailMessage" "Ljava/lang/String;") ∈ GT := gt_t 620 (by decide +kernel) (by decide +kernel)
theorem tk_621 : (Jvm.Cond.lays "java/lang/UnsupportedOperationException" "java/lang/Throwable" "backtrace" "Ljava/lang/Object;") ∈ GT := gt_t 621 (by decide +kernel) (by decide +kernel)
theorem tq_622 : (Jvm.Cond.stringRef "WordShapes" 118 "the result would be too long") ∈ tables_1 := List.mem_of_getElem? (i := 622) (by decide +kernel)
theorem tk_623 : (Jvm.Cond.methodLink "WordShapes" 120 y_JUnsupportedOperationException_init) ∈ GT := gt_t 623 (by decide +kernel) (by decide +kernel)
theorem tk_624 : (Jvm.Cond.instanceMethod y_JUnsupportedOperationException_init) ∈ GT := gt_t 624 (by decide +kernel) (by decide +kernel)
set_option maxRecDepth 20000 in
theorem tk_625 : (Jvm.Cond.code y_JUnsupportedOperationException_init prog_19_method_2_code 2 (Option.none : Option Jvm.ClassFile.FieldType)) ∈ GT := gt_m (List.mem_append_right _ (List.mem_append_right _ (List.mem_append_left _ (List.mem_of_getElem? (i := 145) rfl)))) rfl
theorem tk_626 : (Jvm.Cond.methodLink "java/lang/UnsupportedOperationException" 7 y_JRuntimeException_init) ∈ GT := gt_t 626 (by decide +kernel) (by decide +kernel)
theorem tk_627 : (Jvm.Cond.lays "java/lang/UnsupportedOperationException" "java/lang/Throwable" "depth" "I") ∈ GT := gt_t 627 (by decide +kernel) (by decide +kernel)
theorem tk_629 : (Jvm.Cond.methodLink "WordShapesLaw" 89 y_L_same) ∈ GT := gt_t 629 (by decide +kernel) (by decide +kernel)
theorem tk_630 : (Jvm.Cond.static y_L_same) ∈ GT := gt_t 630 (by decide +kernel) (by decide +kernel)
set_option maxRecDepth 20000 in
theorem tq_631 : (Jvm.Cond.codeWith y_L_same method_8_code 5 (Option.some Jvm.ClassFile.FieldType.int) [(0, 17, 20, 24)]) ∈ tables_1 := List.mem_append_right _ (List.mem_append_right _ (List.mem_append_left _ (List.mem_of_getElem? (i := 151) rfl)))
theorem tk_632 : (Jvm.Cond.methodLink "WordShapesLaw" 34 y_W_same) ∈ GT := gt_t 632 (by decide +kernel) (by decide +kernel)
theorem tk_633 : (Jvm.Cond.instanceMethod y_W_same) ∈ GT := gt_t 633 (by decide +kernel) (by decide +kernel)
theorem tk_634 : (Jvm.Cond.selects "WordShapes" y_W_same y_W_same) ∈ GT := gt_t 634 (by decide +kernel) (by decide +kernel)
set_option maxRecDepth 20000 in
theorem tk_635 : (Jvm.Cond.code y_W_same prog_1_method_8_code 5 (Option.some Jvm.ClassFile.FieldType.boolean)) ∈ GT := gt_m (List.mem_append_right _ (List.mem_append_right _ (List.mem_append_left _ (List.mem_of_getElem? (i := 155) rfl)))) rfl
theorem tk_636 : (Jvm.Cond.methodLink "WordShapes" 133 y_S_isLike) ∈ GT := gt_t 636 (by decide +kernel) (by decide +kernel)
theorem tk_637 : (Jvm.Cond.instanceMethod y_S_isLike) ∈ GT := gt_t 637 (by decide +kernel) (by decide +kernel)
theorem tk_638 : (Jvm.Cond.selects "WordShapes$Shape" y_S_isLike y_S_isLike) ∈ GT := gt_t 638 (by decide +kernel) (by decide +kernel)
set_option maxRecDepth 20000 in
theorem tk_639 : (Jvm.Cond.code y_S_isLike prog_4_method_12_code 3 (Option.some Jvm.ClassFile.FieldType.boolean)) ∈ GT := gt_m (List.mem_append_right _ (List.mem_append_right _ (List.mem_append_left _ (List.mem_of_getElem? (i := 159) rfl)))) rfl
theorem tk_640 : (Jvm.Cond.methodLink "WordShapesLaw" 93 y_L_plan) ∈ GT := gt_t 640 (by decide +kernel) (by decide +kernel)
theorem tk_641 : (Jvm.Cond.static y_L_plan) ∈ GT := gt_t 641 (by decide +kernel) (by decide +kernel)
set_option maxRecDepth 20000 in
theorem tq_642 : (Jvm.Cond.codeWith y_L_plan method_9_code 5 (Option.some Jvm.ClassFile.FieldType.int) [(0, 10, 13, 24)]) ∈ tables_1 := List.mem_append_right _ (List.mem_append_right _ (List.mem_append_left _ (List.mem_of_getElem? (i := 162) rfl)))
theorem tk_643 : (Jvm.Cond.methodLink "WordShapesLaw" 38 y_W_plan) ∈ GT := gt_t 643 (by decide +kernel) (by decide +kernel)
theorem tk_644 : (Jvm.Cond.instanceMethod y_W_plan) ∈ GT := gt_t 644 (by decide +kernel) (by decide +kernel)
theorem tk_645 : (Jvm.Cond.selects "WordShapes" y_W_plan y_W_plan) ∈ GT := gt_t 645 (by decide +kernel) (by decide +kernel)
set_option maxRecDepth 20000 in
theorem tk_646 : (Jvm.Cond.code y_W_plan prog_1_method_9_code 4 (Option.some Jvm.ClassFile.FieldType.int)) ∈ GT := gt_m (List.mem_append_right _ (List.mem_append_right _ (List.mem_append_left _ (List.mem_of_getElem? (i := 166) rfl)))) rfl
theorem tq_647 : (Jvm.Cond.stringRef "WordShapes" 140 "no such number of the plan") ∈ tables_1 := List.mem_of_getElem? (i := 647) (by decide +kernel)
theorem tk_648 : (Jvm.Cond.methodLink "WordShapesLaw" 96 y_L_ordinate) ∈ GT := gt_t 648 (by decide +kernel) (by decide +kernel)
theorem tk_649 : (Jvm.Cond.static y_L_ordinate) ∈ GT := gt_t 649 (by decide +kernel) (by decide +kernel)
set_option maxRecDepth 20000 in
theorem tq_650 : (Jvm.Cond.codeWith y_L_ordinate method_10_code 6 (Option.some Jvm.ClassFile.FieldType.int) [(0, 12, 15, 24)]) ∈ tables_1 := List.mem_append_right _ (List.mem_append_right _ (List.mem_append_left _ (List.mem_of_getElem? (i := 170) rfl)))
theorem tk_651 : (Jvm.Cond.methodLink "WordShapesLaw" 42 y_W_ordinate) ∈ GT := gt_t 651 (by decide +kernel) (by decide +kernel)
theorem tk_652 : (Jvm.Cond.instanceMethod y_W_ordinate) ∈ GT := gt_t 652 (by decide +kernel) (by decide +kernel)
theorem tk_653 : (Jvm.Cond.selects "WordShapes" y_W_ordinate y_W_ordinate) ∈ GT := gt_t 653 (by decide +kernel) (by decide +kernel)
set_option maxRecDepth 20000 in
theorem tk_654 : (Jvm.Cond.code y_W_ordinate prog_1_method_10_code 5 (Option.some Jvm.ClassFile.FieldType.int)) ∈ GT := gt_m (List.mem_append_right _ (List.mem_append_right _ (List.mem_append_left _ (List.mem_of_getElem? (i := 174) rfl)))) rfl
theorem tq_655 : (Jvm.Cond.stringRef "WordShapes" 145 "no such point") ∈ tables_1 := List.mem_of_getElem? (i := 655) (by decide +kernel)
theorem tq_656 : (Jvm.Cond.stringRef "WordShapes" 147 "a point has 0 and 1") ∈ tables_1 := List.mem_of_getElem? (i := 656) (by decide +kernel)
theorem tk_657 : (Jvm.Cond.methodLink "WordShapes" 149 y_S_ordinateAt) ∈ GT := gt_t 657 (by decide +kernel) (by decide +kernel)
theorem tk_658 : (Jvm.Cond.methodLink "WordShapesLaw" 100 y_L_byteAt) ∈ GT := gt_t 658 (by decide +kernel) (by decide +kernel)
theorem tk_659 : (Jvm.Cond.static y_L_byteAt) ∈ GT := gt_t 659 (by decide +kernel) (by decide +kernel)
set_option maxRecDepth 20000 in
theorem tq_660 : (Jvm.Cond.codeWith y_L_byteAt method_11_code 4 (Option.some Jvm.ClassFile.FieldType.int) [(0, 9, 12, 24)]) ∈ tables_1 := List.mem_append_right _ (List.mem_append_right _ (List.mem_append_left _ (List.mem_of_getElem? (i := 180) rfl)))
theorem tk_661 : (Jvm.Cond.methodLink "WordShapesLaw" 46 y_W_byteAt) ∈ GT := gt_t 661 (by decide +kernel) (by decide +kernel)
theorem tk_662 : (Jvm.Cond.instanceMethod y_W_byteAt) ∈ GT := gt_t 662 (by decide +kernel) (by decide +kernel)
theorem tk_663 : (Jvm.Cond.selects "WordShapes" y_W_byteAt y_W_byteAt) ∈ GT := gt_t 663 (by decide +kernel) (by decide +kernel)
set_option maxRecDepth 20000 in
theorem tk_664 : (Jvm.Cond.code y_W_byteAt prog_1_method_11_code 2 (Option.some Jvm.ClassFile.FieldType.int)) ∈ GT := gt_m (List.mem_append_right _ (List.mem_append_right _ (List.mem_append_left _ (List.mem_of_getElem? (i := 184) rfl)))) rfl
theorem tq_665 : (Jvm.Cond.stringRef "WordShapes" 152 "no such byte of the result") ∈ tables_1 := List.mem_of_getElem? (i := 665) (by decide +kernel)
theorem tk_666 : (Jvm.Cond.methodLink "WordShapesLaw" 103 y_L_count) ∈ GT := gt_t 666 (by decide +kernel) (by decide +kernel)
theorem tk_667 : (Jvm.Cond.static y_L_count) ∈ GT := gt_t 667 (by decide +kernel) (by decide +kernel)
set_option maxRecDepth 20000 in
theorem tq_668 : (Jvm.Cond.codeWith y_L_count method_12_code 5 (Option.some Jvm.ClassFile.FieldType.int) [(0, 10, 13, 24)]) ∈ tables_1 := List.mem_append_right _ (List.mem_append_right _ (List.mem_append_left _ (List.mem_of_getElem? (i := 188) rfl)))
theorem tk_669 : (Jvm.Cond.methodLink "WordShapesLaw" 49 y_W_count) ∈ GT := gt_t 669 (by decide +kernel) (by decide +kernel)
theorem tk_670 : (Jvm.Cond.instanceMethod y_W_count) ∈ GT := gt_t 670 (by decide +kernel) (by decide +kernel)
theorem tk_671 : (Jvm.Cond.selects "WordShapes" y_W_count y_W_count) ∈ GT := gt_t 671 (by decide +kernel) (by decide +kernel)
set_option maxRecDepth 20000 in
theorem tk_672 : (Jvm.Cond.code y_W_count prog_1_method_12_code 4 (Option.some Jvm.ClassFile.FieldType.int)) ∈ GT := gt_m (List.mem_append_right _ (List.mem_append_right _ (List.mem_append_left _ (List.mem_of_getElem? (i := 192) rfl)))) rfl
theorem tq_673 : (Jvm.Cond.stringRef "WordShapes" 154 "what is counted is 0 .. 3") ∈ tables_1 := List.mem_of_getElem? (i := 673) (by decide +kernel)
theorem tk_674 : (Jvm.Cond.classLink "WordShapesLaw" 61 "WordShapesModel") ∈ GT := gt_t 674 (by decide +kernel) (by decide +kernel)
theorem tk_675 : (Jvm.Cond.instantiable "WordShapesModel" 24) ∈ GT := gt_t 675 (by decide +kernel) (by decide +kernel)
theorem tk_676 : (Jvm.Cond.methodLink "WordShapesLaw" 63 y_M_init) ∈ GT := gt_t 676 (by decide +kernel) (by decide +kernel)
theorem tk_677 : (Jvm.Cond.instanceMethod y_M_init) ∈ GT := gt_t 677 (by decide +kernel) (by decide +kernel)
set_option maxRecDepth 20000 in
theorem tk_678 : (Jvm.Cond.code y_M_init prog_7_method_1_code 4 (Option.none : Option Jvm.ClassFile.FieldType)) ∈ GT := gt_m (List.mem_append_right _ (List.mem_append_right _ (List.mem_append_left _ (List.mem_of_getElem? (i := 198) rfl)))) rfl
theorem tk_679 : (Jvm.Cond.methodLink "WordShapesModel" 1 y_JObject_init) ∈ GT := gt_t 679 (by decide +kernel) (by decide +kernel)
theorem tk_680 : (Jvm.Cond.constant "WordShapesModel" 16 (65536 : Int32)) ∈ GT := gt_t 680 (by decide +kernel) (by decide +kernel)
theorem tk_681 : (Jvm.Cond.constant "WordShapesModel" 26 (32768 : Int32)) ∈ GT := gt_t 681 (by decide +kernel) (by decide +kernel)
theorem tk_682 : (Jvm.Cond.constant "WordShapesModel" 33 (131072 : Int32)) ∈ GT := gt_t 682 (by decide +kernel) (by decide +kernel)
theorem tk_683 : (Jvm.Cond.fieldLink "WordShapesModel" 7 "WordShapesModel" "letters" "[I") ∈ GT := gt_t 683 (by decide +kernel) (by decide +kernel)
theorem tk_684 : (Jvm.Cond.fieldLink "WordShapesModel" 13 "WordShapesModel" "begins" "[I") ∈ GT := gt_t 684 (by decide +kernel) (by decide +kernel)
theorem tk_685 : (Jvm.Cond.fieldLink "WordShapesModel" 59 "WordShapesModel" "thrown" "I") ∈ GT := gt_t 685 (by decide +kernel) (by decide +kernel)
theorem tk_686 : (Jvm.Cond.fieldLink "WordShapesModel" 49 "WordShapesModel" "digits" "I") ∈ GT := gt_t 686 (by decide +kernel) (by decide +kernel)
theorem tk_687 : (Jvm.Cond.fieldLink "WordShapesModel" 53 "WordShapesModel" "mostPoints" "I") ∈ GT := gt_t 687 (by decide +kernel) (by decide +kernel)
theorem tk_688 : (Jvm.Cond.fieldLink "WordShapesModel" 56 "WordShapesModel" "mostPlan" "I") ∈ GT := gt_t 688 (by decide +kernel) (by decide +kernel)
theorem tk_689 : (Jvm.Cond.fieldLink "WordShapesModel" 66 "WordShapesModel" "fed" "I") ∈ GT := gt_t 689 (by decide +kernel) (by decide +kernel)
theorem tk_690 : (Jvm.Cond.fieldLink "WordShapesModel" 17 "WordShapesModel" "tape" "[I") ∈ GT := gt_t 690 (by decide +kernel) (by decide +kernel)
theorem tk_691 : (Jvm.Cond.fieldLink "WordShapesModel" 20 "WordShapesModel" "plan" "[I") ∈ GT := gt_t 691 (by decide +kernel) (by decide +kernel)
theorem tk_692 : (Jvm.Cond.fieldLink "WordShapesModel" 23 "WordShapesModel" "planned" "[I") ∈ GT := gt_t 692 (by decide +kernel) (by decide +kernel)
theorem tk_693 : (Jvm.Cond.fieldLink "WordShapesModel" 27 "WordShapesModel" "xy" "[I") ∈ GT := gt_t 693 (by decide +kernel) (by decide +kernel)
theorem tk_694 : (Jvm.Cond.fieldLink "WordShapesModel" 30 "WordShapesModel" "points" "[I") ∈ GT := gt_t 694 (by decide +kernel) (by decide +kernel)
theorem tk_695 : (Jvm.Cond.fieldLink "WordShapesModel" 217 "WordShapesModel" "size" "I") ∈ GT := gt_t 695 (by decide +kernel) (by decide +kernel)
theorem tk_696 : (Jvm.Cond.fieldLink "WordShapesModel" 34 "WordShapesModel" "result" "[I") ∈ GT := gt_t 696 (by decide +kernel) (by decide +kernel)
theorem tk_697 : (Jvm.Cond.fieldLink "WordShapesModel" 37 "WordShapesModel" "out" "[I") ∈ GT := gt_t 697 (by decide +kernel) (by decide +kernel)
theorem tk_698 : (Jvm.Cond.fieldLink "WordShapesModel" 192 "WordShapesModel" "written" "I") ∈ GT := gt_t 698 (by decide +kernel) (by decide +kernel)
theorem tk_699 : (Jvm.Cond.fieldLink "WordShapesModel" 135 "WordShapesModel" "slot" "I") ∈ GT := gt_t 699 (by decide +kernel) (by decide +kernel)
theorem tk_700 : (Jvm.Cond.fieldLink "WordShapesModel" 83 "WordShapesModel" "at" "I") ∈ GT := gt_t 700 (by decide +kernel) (by decide +kernel)
theorem tk_701 : (Jvm.Cond.fieldLink "WordShapesModel" 89 "WordShapesModel" "fault" "I") ∈ GT := gt_t 701 (by decide +kernel) (by decide +kernel)
theorem tk_702 : (Jvm.Cond.fieldLink "WordShapesModel" 92 "WordShapesModel" "place" "I") ∈ GT := gt_t 702 (by decide +kernel) (by decide +kernel)
theorem tk_703 : (Jvm.Cond.fieldLink "WordShapesModel" 128 "WordShapesModel" "value" "I") ∈ GT := gt_t 703 (by decide +kernel) (by decide +kernel)
theorem tk_704 : (Jvm.Cond.fieldLink "WordShapesModel" 40 "WordShapesModel" "openAt" "[I") ∈ GT := gt_t 704 (by decide +kernel) (by decide +kernel)
theorem tk_705 : (Jvm.Cond.fieldLink "WordShapesModel" 43 "WordShapesModel" "openCount" "[I") ∈ GT := gt_t 705 (by decide +kernel) (by decide +kernel)
theorem tk_706 : (Jvm.Cond.fieldLink "WordShapesModel" 46 "WordShapesModel" "openKind" "[I") ∈ GT := gt_t 706 (by decide +kernel) (by decide +kernel)
theorem tk_707 : (Jvm.Cond.laysFinal "WordShapesModel" "WordShapesModel" "letters" "[I") ∈ GT := gt_t 707 (by decide +kernel) (by decide +kernel)
theorem tk_709 : (Jvm.Cond.laysFinal "WordShapesModel" "WordShapesModel" "begins" "[I") ∈ GT := gt_t 709 (by decide +kernel) (by decide +kernel)
theorem tk_711 : (Jvm.Cond.lays "WordShapesModel" "WordShapesModel" "thrown" "I") ∈ GT := gt_t 711 (by decide +kernel) (by decide +kernel)
theorem tk_713 : (Jvm.Cond.laysFinal "WordShapesModel" "WordShapesModel" "digits" "I") ∈ GT := gt_t 713 (by decide +kernel) (by decide +kernel)
theorem tk_715 : (Jvm.Cond.laysFinal "WordShapesModel" "WordShapesModel" "mostPoints" "I") ∈ GT := gt_t 715 (by decide +kernel) (by decide +kernel)
theorem tk_717 : (Jvm.Cond.laysFinal "WordShapesModel" "WordShapesModel" "mostPlan" "I") ∈ GT := gt_t 717 (by decide +kernel) (by decide +kernel)
theorem tk_719 : (Jvm.Cond.lays "WordShapesModel" "WordShapesModel" "fed" "I") ∈ GT := gt_t 719 (by decide +kernel) (by decide +kernel)
theorem tk_721 : (Jvm.Cond.laysFinal "WordShapesModel" "WordShapesModel" "tape" "[I") ∈ GT := gt_t 721 (by decide +kernel) (by decide +kernel)
theorem tk_723 : (Jvm.Cond.laysFinal "WordShapesModel" "WordShapesModel" "plan" "[I") ∈ GT := gt_t 723 (by decide +kernel) (by decide +kernel)
theorem tk_725 : (Jvm.Cond.laysFinal "WordShapesModel" "WordShapesModel" "planned" "[I") ∈ GT := gt_t 725 (by decide +kernel) (by decide +kernel)
theorem tk_727 : (Jvm.Cond.laysFinal "WordShapesModel" "WordShapesModel" "xy" "[I") ∈ GT := gt_t 727 (by decide +kernel) (by decide +kernel)
theorem tk_729 : (Jvm.Cond.laysFinal "WordShapesModel" "WordShapesModel" "points" "[I") ∈ GT := gt_t 729 (by decide +kernel) (by decide +kernel)
theorem tk_731 : (Jvm.Cond.lays "WordShapesModel" "WordShapesModel" "size" "I") ∈ GT := gt_t 731 (by decide +kernel) (by decide +kernel)
theorem tk_733 : (Jvm.Cond.laysFinal "WordShapesModel" "WordShapesModel" "result" "[I") ∈ GT := gt_t 733 (by decide +kernel) (by decide +kernel)
theorem tk_735 : (Jvm.Cond.laysFinal "WordShapesModel" "WordShapesModel" "out" "[I") ∈ GT := gt_t 735 (by decide +kernel) (by decide +kernel)
theorem tk_737 : (Jvm.Cond.lays "WordShapesModel" "WordShapesModel" "written" "I") ∈ GT := gt_t 737 (by decide +kernel) (by decide +kernel)
theorem tk_739 : (Jvm.Cond.lays "WordShapesModel" "WordShapesModel" "slot" "I") ∈ GT := gt_t 739 (by decide +kernel) (by decide +kernel)
theorem tk_741 : (Jvm.Cond.lays "WordShapesModel" "WordShapesModel" "at" "I") ∈ GT := gt_t 741 (by decide +kernel) (by decide +kernel)
theorem tk_743 : (Jvm.Cond.lays "WordShapesModel" "WordShapesModel" "fault" "I") ∈ GT := gt_t 743 (by decide +kernel) (by decide +kernel)
theorem tk_745 : (Jvm.Cond.lays "WordShapesModel" "WordShapesModel" "place" "I") ∈ GT := gt_t 745 (by decide +kernel) (by decide +kernel)
theorem tk_747 : (Jvm.Cond.lays "WordShapesModel" "WordShapesModel" "value" "I") ∈ GT := gt_t 747 (by decide +kernel) (by decide +kernel)
theorem tk_749 : (Jvm.Cond.laysFinal "WordShapesModel" "WordShapesModel" "openAt" "[I") ∈ GT := gt_t 749 (by decide +kernel) (by decide +kernel)
theorem tk_751 : (Jvm.Cond.laysFinal "WordShapesModel" "WordShapesModel" "openCount" "[I") ∈ GT := gt_t 751 (by decide +kernel) (by decide +kernel)
theorem tk_753 : (Jvm.Cond.laysFinal "WordShapesModel" "WordShapesModel" "openKind" "[I") ∈ GT := gt_t 753 (by decide +kernel) (by decide +kernel)
theorem tk_756 : (Jvm.Cond.methodLink "WordShapesLaw" 68 y_M_thrown) ∈ GT := gt_t 756 (by decide +kernel) (by decide +kernel)
theorem tk_757 : (Jvm.Cond.instanceMethod y_M_thrown) ∈ GT := gt_t 757 (by decide +kernel) (by decide +kernel)
theorem tk_758 : (Jvm.Cond.selects "WordShapesModel" y_M_thrown y_M_thrown) ∈ GT := gt_t 758 (by decide +kernel) (by decide +kernel)
set_option maxRecDepth 20000 in
theorem tk_759 : (Jvm.Cond.code y_M_thrown prog_7_method_2_code 1 (Option.some Jvm.ClassFile.FieldType.int)) ∈ GT := gt_m (List.mem_append_right _ (List.mem_append_right _ (List.mem_append_right _ (List.mem_of_getElem? (i := 39) rfl)))) rfl
theorem tk_760 : (Jvm.Cond.methodLink "WordShapesLaw" 67 y_M_feed) ∈ GT := gt_t 760 (by decide +kernel) (by decide +kernel)
theorem tk_761 : (Jvm.Cond.instanceMethod y_M_feed) ∈ GT := gt_t 761 (by decide +kernel) (by decide +kernel)
theorem tk_762 : (Jvm.Cond.selects "WordShapesModel" y_M_feed y_M_feed) ∈ GT := gt_t 762 (by decide +kernel) (by decide +kernel)
set_option maxRecDepth 20000 in
theorem tk_763 : (Jvm.Cond.code y_M_feed prog_7_method_6_code 8 (Option.some Jvm.ClassFile.FieldType.int)) ∈ GT := gt_m (List.mem_append_right _ (List.mem_append_right _ (List.mem_append_right _ (List.mem_of_getElem? (i := 43) rfl)))) rfl
theorem tk_764 : (Jvm.Cond.methodLink "WordShapesModel" 69 y_M_fail) ∈ GT := gt_t 764 (by decide +kernel) (by decide +kernel)
theorem tk_766 : (Jvm.Cond.instanceMethod y_M_fail) ∈ GT := gt_t 766 (by decide +kernel) (by decide +kernel)
set_option maxRecDepth 20000 in
theorem tk_767 : (Jvm.Cond.code y_M_fail prog_7_method_3_code 2 (Option.some Jvm.ClassFile.FieldType.int)) ∈ GT := gt_m (List.mem_append_right _ (List.mem_append_right _ (List.mem_append_right _ (List.mem_of_getElem? (i := 47) rfl)))) rfl
theorem tk_768 : (Jvm.Cond.methodLink "WordShapesLaw" 75 y_M_end) ∈ GT := gt_t 768 (by decide +kernel) (by decide +kernel)
theorem tk_769 : (Jvm.Cond.instanceMethod y_M_end) ∈ GT := gt_t 769 (by decide +kernel) (by decide +kernel)
theorem tk_770 : (Jvm.Cond.selects "WordShapesModel" y_M_end y_M_end) ∈ GT := gt_t 770 (by decide +kernel) (by decide +kernel)
set_option maxRecDepth 20000 in
theorem tk_771 : (Jvm.Cond.code y_M_end prog_7_method_7_code 2 (Option.some Jvm.ClassFile.FieldType.int)) ∈ GT := gt_m (List.mem_append_right _ (List.mem_append_right _ (List.mem_append_right _ (List.mem_of_getElem? (i := 51) rfl)))) rfl
theorem tk_772 : (Jvm.Cond.methodLink "WordShapesModel" 62 y_M_within) ∈ GT := gt_t 772 (by decide +kernel) (by decide +kernel)
theorem tk_773 : (Jvm.Cond.static y_M_within) ∈ GT := gt_t 773 (by decide +kernel) (by decide +kernel)
set_option maxRecDepth 20000 in
theorem tk_774 : (Jvm.Cond.code y_M_within prog_7_method_4_code 3 (Option.some Jvm.ClassFile.FieldType.boolean)) ∈ GT := gt_m (List.mem_append_right _ (List.mem_append_right _ (List.mem_append_right _ (List.mem_of_getElem? (i := 54) rfl)))) rfl
theorem tk_775 : (Jvm.Cond.methodLink "WordShapesLaw" 78 y_M_read) ∈ GT := gt_t 775 (by decide +kernel) (by decide +kernel)
theorem tk_776 : (Jvm.Cond.instanceMethod y_M_read) ∈ GT := gt_t 776 (by decide +kernel) (by decide +kernel)
theorem tk_777 : (Jvm.Cond.selects "WordShapesModel" y_M_read y_M_read) ∈ GT := gt_t 777 (by decide +kernel) (by decide +kernel)
set_option maxRecDepth 20000 in
theorem tk_778 : (Jvm.Cond.code y_M_read prog_7_method_35_code 3 (Option.some Jvm.ClassFile.FieldType.int)) ∈ GT := gt_m (List.mem_append_right _ (List.mem_append_right _ (List.mem_append_right _ (List.mem_of_getElem? (i := 58) rfl)))) rfl
theorem tk_779 : (Jvm.Cond.methodLink "WordShapesModel" 186 y_M_isSlot) ∈ GT := gt_t 779 (by decide +kernel) (by decide +kernel)
theorem tk_780 : (Jvm.Cond.static y_M_isSlot) ∈ GT := gt_t 780 (by decide +kernel) (by decide +kernel)
set_option maxRecDepth 20000 in
theorem tk_781 : (Jvm.Cond.code y_M_isSlot prog_7_method_5_code 1 (Option.some Jvm.ClassFile.FieldType.boolean)) ∈ GT := gt_m (List.mem_append_right _ (List.mem_append_right _ (List.mem_append_right _ (List.mem_of_getElem? (i := 61) rfl)))) rfl
theorem tk_782 : (Jvm.Cond.methodLink "WordShapesModel" 189 y_M_readAll) ∈ GT := gt_t 782 (by decide +kernel) (by decide +kernel)
theorem tk_784 : (Jvm.Cond.instanceMethod y_M_readAll) ∈ GT := gt_t 784 (by decide +kernel) (by decide +kernel)
set_option maxRecDepth 20000 in
theorem tk_785 : (Jvm.Cond.code y_M_readAll prog_7_method_34_code 6 (Option.some Jvm.ClassFile.FieldType.boolean)) ∈ GT := gt_m (List.mem_append_right _ (List.mem_append_right _ (List.mem_append_right _ (List.mem_of_getElem? (i := 65) rfl)))) rfl
theorem tk_786 : (Jvm.Cond.methodLink "WordShapesModel" 183 y_M_shape) ∈ GT := gt_t 786 (by decide +kernel) (by decide +kernel)
theorem tk_788 : (Jvm.Cond.instanceMethod y_M_shape) ∈ GT := gt_t 788 (by decide +kernel) (by decide +kernel)
set_option maxRecDepth 20000 in
theorem tk_789 : (Jvm.Cond.code y_M_shape prog_7_method_33_code 7 (Option.some Jvm.ClassFile.FieldType.int)) ∈ GT := gt_m (List.mem_append_right _ (List.mem_append_right _ (List.mem_append_right _ (List.mem_of_getElem? (i := 69) rfl)))) rfl
theorem tk_790 : (Jvm.Cond.methodLink "WordShapesModel" 106 y_M_pass) ∈ GT := gt_t 790 (by decide +kernel) (by decide +kernel)
theorem tk_792 : (Jvm.Cond.instanceMethod y_M_pass) ∈ GT := gt_t 792 (by decide +kernel) (by decide +kernel)
set_option maxRecDepth 20000 in
theorem tk_793 : (Jvm.Cond.code y_M_pass prog_7_method_14_code 1 (Option.none : Option Jvm.ClassFile.FieldType)) ∈ GT := gt_m (List.mem_append_right _ (List.mem_append_right _ (List.mem_append_right _ (List.mem_of_getElem? (i := 73) rfl)))) rfl
theorem tk_794 : (Jvm.Cond.methodLink "WordShapesModel" 86 y_M_isBlank) ∈ GT := gt_t 794 (by decide +kernel) (by decide +kernel)
theorem tk_795 : (Jvm.Cond.static y_M_isBlank) ∈ GT := gt_t 795 (by decide +kernel) (by decide +kernel)
set_option maxRecDepth 20000 in
theorem tk_796 : (Jvm.Cond.code y_M_isBlank prog_7_method_8_code 1 (Option.some Jvm.ClassFile.FieldType.boolean)) ∈ GT := gt_m (List.mem_append_right _ (List.mem_append_right _ (List.mem_append_right _ (List.mem_of_getElem? (i := 76) rfl)))) rfl
theorem tk_797 : (Jvm.Cond.methodLink "WordShapesModel" 95 y_M_here) ∈ GT := gt_t 797 (by decide +kernel) (by decide +kernel)
theorem tk_799 : (Jvm.Cond.instanceMethod y_M_here) ∈ GT := gt_t 799 (by decide +kernel) (by decide +kernel)
set_option maxRecDepth 20000 in
theorem tk_800 : (Jvm.Cond.code y_M_here prog_7_method_13_code 1 (Option.some Jvm.ClassFile.FieldType.int)) ∈ GT := gt_m (List.mem_append_right _ (List.mem_append_right _ (List.mem_append_right _ (List.mem_of_getElem? (i := 80) rfl)))) rfl
theorem tk_801 : (Jvm.Cond.methodLink "WordShapesModel" 73 y_M_isLetter) ∈ GT := gt_t 801 (by decide +kernel) (by decide +kernel)
theorem tk_802 : (Jvm.Cond.static y_M_isLetter) ∈ GT := gt_t 802 (by decide +kernel) (by decide +kernel)
set_option maxRecDepth 20000 in
theorem tk_803 : (Jvm.Cond.code y_M_isLetter prog_7_method_9_code 1 (Option.some Jvm.ClassFile.FieldType.boolean)) ∈ GT := gt_m (List.mem_append_right _ (List.mem_append_right _ (List.mem_append_right _ (List.mem_of_getElem? (i := 83) rfl)))) rfl
theorem tk_804 : (Jvm.Cond.methodLink "WordShapesModel" 109 y_M_unexpected) ∈ GT := gt_t 804 (by decide +kernel) (by decide +kernel)
theorem tk_806 : (Jvm.Cond.instanceMethod y_M_unexpected) ∈ GT := gt_t 806 (by decide +kernel) (by decide +kernel)
set_option maxRecDepth 20000 in
theorem tk_807 : (Jvm.Cond.code y_M_unexpected prog_7_method_16_code 1 (Option.some Jvm.ClassFile.FieldType.boolean)) ∈ GT := gt_m (List.mem_append_right _ (List.mem_append_right _ (List.mem_append_right _ (List.mem_of_getElem? (i := 87) rfl)))) rfl
theorem tk_808 : (Jvm.Cond.methodLink "WordShapesModel" 99 y_M_isKnown) ∈ GT := gt_t 808 (by decide +kernel) (by decide +kernel)
theorem tk_809 : (Jvm.Cond.static y_M_isKnown) ∈ GT := gt_t 809 (by decide +kernel) (by decide +kernel)
set_option maxRecDepth 20000 in
theorem tk_810 : (Jvm.Cond.code y_M_isKnown prog_7_method_12_code 1 (Option.some Jvm.ClassFile.FieldType.boolean)) ∈ GT := gt_m (List.mem_append_right _ (List.mem_append_right _ (List.mem_append_right _ (List.mem_of_getElem? (i := 90) rfl)))) rfl
theorem tk_811 : (Jvm.Cond.methodLink "WordShapesModel" 77 y_M_isDigit) ∈ GT := gt_t 811 (by decide +kernel) (by decide +kernel)
theorem tk_812 : (Jvm.Cond.static y_M_isDigit) ∈ GT := gt_t 812 (by decide +kernel) (by decide +kernel)
set_option maxRecDepth 20000 in
theorem tk_813 : (Jvm.Cond.code y_M_isDigit prog_7_method_10_code 1 (Option.some Jvm.ClassFile.FieldType.boolean)) ∈ GT := gt_m (List.mem_append_right _ (List.mem_append_right _ (List.mem_append_right _ (List.mem_of_getElem? (i := 93) rfl)))) rfl
theorem tk_814 : (Jvm.Cond.methodLink "WordShapesModel" 80 y_M_isSign) ∈ GT := gt_t 814 (by decide +kernel) (by decide +kernel)
theorem tk_815 : (Jvm.Cond.static y_M_isSign) ∈ GT := gt_t 815 (by decide +kernel) (by decide +kernel)
set_option maxRecDepth 20000 in
theorem tk_816 : (Jvm.Cond.code y_M_isSign prog_7_method_11_code 1 (Option.some Jvm.ClassFile.FieldType.boolean)) ∈ GT := gt_m (List.mem_append_right _ (List.mem_append_right _ (List.mem_append_right _ (List.mem_of_getElem? (i := 96) rfl)))) rfl
theorem tk_817 : (Jvm.Cond.methodLink "WordShapesModel" 102 y_M_wrong) ∈ GT := gt_t 817 (by decide +kernel) (by decide +kernel)
theorem tk_819 : (Jvm.Cond.instanceMethod y_M_wrong) ∈ GT := gt_t 819 (by decide +kernel) (by decide +kernel)
set_option maxRecDepth 20000 in
theorem tk_820 : (Jvm.Cond.code y_M_wrong prog_7_method_15_code 3 (Option.some Jvm.ClassFile.FieldType.boolean)) ∈ GT := gt_m (List.mem_append_right _ (List.mem_append_right _ (List.mem_append_right _ (List.mem_of_getElem? (i := 100) rfl)))) rfl
theorem tk_821 : (Jvm.Cond.methodLink "WordShapesModel" 167 y_M_word) ∈ GT := gt_t 821 (by decide +kernel) (by decide +kernel)
theorem tk_823 : (Jvm.Cond.instanceMethod y_M_word) ∈ GT := gt_t 823 (by decide +kernel) (by decide +kernel)
set_option maxRecDepth 20000 in
theorem tk_824 : (Jvm.Cond.code y_M_word prog_7_method_17_code 7 (Option.some Jvm.ClassFile.FieldType.int)) ∈ GT := gt_m (List.mem_append_right _ (List.mem_append_right _ (List.mem_append_right _ (List.mem_of_getElem? (i := 104) rfl)))) rfl
theorem tk_825 : (Jvm.Cond.methodLink "WordShapesModel" 142 y_M_room) ∈ GT := gt_t 825 (by decide +kernel) (by decide +kernel)
theorem tk_827 : (Jvm.Cond.instanceMethod y_M_room) ∈ GT := gt_t 827 (by decide +kernel) (by decide +kernel)
set_option maxRecDepth 20000 in
theorem tk_828 : (Jvm.Cond.code y_M_room prog_7_method_23_code 3 (Option.some Jvm.ClassFile.FieldType.boolean)) ∈ GT := gt_m (List.mem_append_right _ (List.mem_append_right _ (List.mem_append_right _ (List.mem_of_getElem? (i := 108) rfl)))) rfl
theorem tk_829 : (Jvm.Cond.methodLink "WordShapesModel" 170 y_M_open) ∈ GT := gt_t 829 (by decide +kernel) (by decide +kernel)
theorem tk_831 : (Jvm.Cond.instanceMethod y_M_open) ∈ GT := gt_t 831 (by decide +kernel) (by decide +kernel)
set_option maxRecDepth 20000 in
theorem tk_832 : (Jvm.Cond.code y_M_open prog_7_method_25_code 2 (Option.some Jvm.ClassFile.FieldType.int)) ∈ GT := gt_m (List.mem_append_right _ (List.mem_append_right _ (List.mem_append_right _ (List.mem_of_getElem? (i := 112) rfl)))) rfl
theorem tk_833 : (Jvm.Cond.methodLink "WordShapesModel" 138 y_M_say) ∈ GT := gt_t 833 (by decide +kernel) (by decide +kernel)
theorem tk_835 : (Jvm.Cond.instanceMethod y_M_say) ∈ GT := gt_t 835 (by decide +kernel) (by decide +kernel)
set_option maxRecDepth 20000 in
theorem tk_836 : (Jvm.Cond.code y_M_say prog_7_method_24_code 2 (Option.none : Option Jvm.ClassFile.FieldType)) ∈ GT := gt_m (List.mem_append_right _ (List.mem_append_right _ (List.mem_append_right _ (List.mem_of_getElem? (i := 116) rfl)))) rfl
theorem tk_837 : (Jvm.Cond.methodLink "WordShapesModel" 173 y_M_looked) ∈ GT := gt_t 837 (by decide +kernel) (by decide +kernel)
theorem tk_839 : (Jvm.Cond.instanceMethod y_M_looked) ∈ GT := gt_t 839 (by decide +kernel) (by decide +kernel)
set_option maxRecDepth 20000 in
theorem tk_840 : (Jvm.Cond.code y_M_looked prog_7_method_31_code 4 (Option.some Jvm.ClassFile.FieldType.int)) ∈ GT := gt_m (List.mem_append_right _ (List.mem_append_right _ (List.mem_append_right _ (List.mem_of_getElem? (i := 120) rfl)))) rfl
theorem tk_841 : (Jvm.Cond.methodLink "WordShapesModel" 177 y_M_simple) ∈ GT := gt_t 841 (by decide +kernel) (by decide +kernel)
theorem tk_843 : (Jvm.Cond.instanceMethod y_M_simple) ∈ GT := gt_t 843 (by decide +kernel) (by decide +kernel)
set_option maxRecDepth 20000 in
theorem tk_844 : (Jvm.Cond.code y_M_simple prog_7_method_30_code 2 (Option.some Jvm.ClassFile.FieldType.int)) ∈ GT := gt_m (List.mem_append_right _ (List.mem_append_right _ (List.mem_append_right _ (List.mem_of_getElem? (i := 124) rfl)))) rfl
theorem tk_845 : (Jvm.Cond.methodLink "WordShapesModel" 164 y_M_rings) ∈ GT := gt_t 845 (by decide +kernel) (by decide +kernel)
theorem tk_847 : (Jvm.Cond.instanceMethod y_M_rings) ∈ GT := gt_t 847 (by decide +kernel) (by decide +kernel)
set_option maxRecDepth 20000 in
theorem tk_848 : (Jvm.Cond.code y_M_rings prog_7_method_29_code 5 (Option.some Jvm.ClassFile.FieldType.int)) ∈ GT := gt_m (List.mem_append_right _ (List.mem_append_right _ (List.mem_append_right _ (List.mem_of_getElem? (i := 128) rfl)))) rfl
theorem tk_849 : (Jvm.Cond.methodLink "WordShapesModel" 154 y_M_must) ∈ GT := gt_t 849 (by decide +kernel) (by decide +kernel)
theorem tk_851 : (Jvm.Cond.instanceMethod y_M_must) ∈ GT := gt_t 851 (by decide +kernel) (by decide +kernel)
set_option maxRecDepth 20000 in
theorem tk_852 : (Jvm.Cond.code y_M_must prog_7_method_18_code 2 (Option.some Jvm.ClassFile.FieldType.boolean)) ∈ GT := gt_m (List.mem_append_right _ (List.mem_append_right _ (List.mem_append_right _ (List.mem_of_getElem? (i := 132) rfl)))) rfl
theorem tk_853 : (Jvm.Cond.methodLink "WordShapesModel" 157 y_M_coordinates) ∈ GT := gt_t 853 (by decide +kernel) (by decide +kernel)
theorem tk_855 : (Jvm.Cond.instanceMethod y_M_coordinates) ∈ GT := gt_t 855 (by decide +kernel) (by decide +kernel)
set_option maxRecDepth 20000 in
theorem tk_856 : (Jvm.Cond.code y_M_coordinates prog_7_method_28_code 3 (Option.some Jvm.ClassFile.FieldType.int)) ∈ GT := gt_m (List.mem_append_right _ (List.mem_append_right _ (List.mem_append_right _ (List.mem_of_getElem? (i := 136) rfl)))) rfl
theorem tk_857 : (Jvm.Cond.methodLink "WordShapesModel" 148 y_M_coordinate) ∈ GT := gt_t 857 (by decide +kernel) (by decide +kernel)
theorem tk_859 : (Jvm.Cond.instanceMethod y_M_coordinate) ∈ GT := gt_t 859 (by decide +kernel) (by decide +kernel)
set_option maxRecDepth 20000 in
theorem tk_860 : (Jvm.Cond.code y_M_coordinate prog_7_method_27_code 3 (Option.some Jvm.ClassFile.FieldType.boolean)) ∈ GT := gt_m (List.mem_append_right _ (List.mem_append_right _ (List.mem_append_right _ (List.mem_of_getElem? (i := 140) rfl)))) rfl
theorem tk_861 : (Jvm.Cond.methodLink "WordShapesModel" 145 y_M_number) ∈ GT := gt_t 861 (by decide +kernel) (by decide +kernel)
theorem tk_863 : (Jvm.Cond.instanceMethod y_M_number) ∈ GT := gt_t 863 (by decide +kernel) (by decide +kernel)
set_option maxRecDepth 20000 in
theorem tk_864 : (Jvm.Cond.code y_M_number prog_7_method_21_code 12 (Option.some Jvm.ClassFile.FieldType.boolean)) ∈ GT := gt_m (List.mem_append_right _ (List.mem_append_right _ (List.mem_append_right _ (List.mem_of_getElem? (i := 144) rfl)))) rfl
theorem tk_865 : (Jvm.Cond.methodLink "WordShapesModel" 113 y_M_digitsFrom) ∈ GT := gt_t 865 (by decide +kernel) (by decide +kernel)
theorem tk_867 : (Jvm.Cond.instanceMethod y_M_digitsFrom) ∈ GT := gt_t 867 (by decide +kernel) (by decide +kernel)
set_option maxRecDepth 20000 in
theorem tk_868 : (Jvm.Cond.code y_M_digitsFrom prog_7_method_20_code 2 (Option.some Jvm.ClassFile.FieldType.int)) ∈ GT := gt_m (List.mem_append_right _ (List.mem_append_right _ (List.mem_append_right _ (List.mem_of_getElem? (i := 148) rfl)))) rfl
theorem tk_869 : (Jvm.Cond.constantLong "WordShapesModel" 116 (10000000 : Int64)) ∈ GT := gt_t 869 (by decide +kernel) (by decide +kernel)
theorem tk_870 : (Jvm.Cond.constantLong "WordShapesModel" 118 (10 : Int64)) ∈ GT := gt_t 870 (by decide +kernel) (by decide +kernel)
theorem tk_871 : (Jvm.Cond.constantLong "WordShapesModel" 120 (48 : Int64)) ∈ GT := gt_t 871 (by decide +kernel) (by decide +kernel)
theorem tk_872 : (Jvm.Cond.methodLink "WordShapesModel" 122 y_M_rounded) ∈ GT := gt_t 872 (by decide +kernel) (by decide +kernel)
theorem tk_874 : (Jvm.Cond.instanceMethod y_M_rounded) ∈ GT := gt_t 874 (by decide +kernel) (by decide +kernel)
set_option maxRecDepth 20000 in
theorem tk_875 : (Jvm.Cond.code y_M_rounded prog_7_method_22_code 13 (Option.some Jvm.ClassFile.FieldType.long)) ∈ GT := gt_m (List.mem_append_right _ (List.mem_append_right _ (List.mem_append_right _ (List.mem_of_getElem? (i := 155) rfl)))) rfl
theorem tk_876 : (Jvm.Cond.constantLong "WordShapesModel" 131 (100000000000 : Int64)) ∈ GT := gt_t 876 (by decide +kernel) (by decide +kernel)
theorem tk_877 : (Jvm.Cond.constantLong "WordShapesModel" 133 (2 : Int64)) ∈ GT := gt_t 877 (by decide +kernel) (by decide +kernel)
theorem tk_878 : (Jvm.Cond.constantLong "WordShapesModel" 126 (1000000000 : Int64)) ∈ GT := gt_t 878 (by decide +kernel) (by decide +kernel)
theorem tk_879 : (Jvm.Cond.methodLink "WordShapesModel" 151 y_M_goesOn) ∈ GT := gt_t 879 (by decide +kernel) (by decide +kernel)
theorem tk_881 : (Jvm.Cond.instanceMethod y_M_goesOn) ∈ GT := gt_t 881 (by decide +kernel) (by decide +kernel)
set_option maxRecDepth 20000 in
theorem tk_882 : (Jvm.Cond.code y_M_goesOn prog_7_method_19_code 1 (Option.some Jvm.ClassFile.FieldType.int)) ∈ GT := gt_m (List.mem_append_right _ (List.mem_append_right _ (List.mem_append_right _ (List.mem_of_getElem? (i := 162) rfl)))) rfl
theorem tk_883 : (Jvm.Cond.methodLink "WordShapesModel" 160 y_M_close) ∈ GT := gt_t 883 (by decide +kernel) (by decide +kernel)
theorem tk_885 : (Jvm.Cond.instanceMethod y_M_close) ∈ GT := gt_t 885 (by decide +kernel) (by decide +kernel)
set_option maxRecDepth 20000 in
theorem tk_886 : (Jvm.Cond.code y_M_close prog_7_method_26_code 3 (Option.none : Option Jvm.ClassFile.FieldType)) ∈ GT := gt_m (List.mem_append_right _ (List.mem_append_right _ (List.mem_append_right _ (List.mem_of_getElem? (i := 166) rfl)))) rfl
theorem tk_887 : (Jvm.Cond.methodLink "WordShapesModel" 180 y_M_parts) ∈ GT := gt_t 887 (by decide +kernel) (by decide +kernel)
theorem tk_889 : (Jvm.Cond.instanceMethod y_M_parts) ∈ GT := gt_t 889 (by decide +kernel) (by decide +kernel)
set_option maxRecDepth 20000 in
theorem tk_890 : (Jvm.Cond.code y_M_parts prog_7_method_32_code 7 (Option.some Jvm.ClassFile.FieldType.int)) ∈ GT := gt_m (List.mem_append_right _ (List.mem_append_right _ (List.mem_append_right _ (List.mem_of_getElem? (i := 170) rfl)))) rfl
theorem tk_891 : (Jvm.Cond.methodLink "WordShapesLaw" 81 y_M_fault) ∈ GT := gt_t 891 (by decide +kernel) (by decide +kernel)
theorem tk_892 : (Jvm.Cond.instanceMethod y_M_fault) ∈ GT := gt_t 892 (by decide +kernel) (by decide +kernel)
theorem tk_893 : (Jvm.Cond.selects "WordShapesModel" y_M_fault y_M_fault) ∈ GT := gt_t 893 (by decide +kernel) (by decide +kernel)
set_option maxRecDepth 20000 in
theorem tk_894 : (Jvm.Cond.code y_M_fault prog_7_method_36_code 2 (Option.some Jvm.ClassFile.FieldType.int)) ∈ GT := gt_m (List.mem_append_right _ (List.mem_append_right _ (List.mem_append_right _ (List.mem_of_getElem? (i := 174) rfl)))) rfl
theorem tk_895 : (Jvm.Cond.methodLink "WordShapesLaw" 84 y_M_write) ∈ GT := gt_t 895 (by decide +kernel) (by decide +kernel)
theorem tk_896 : (Jvm.Cond.instanceMethod y_M_write) ∈ GT := gt_t 896 (by decide +kernel) (by decide +kernel)
theorem tk_897 : (Jvm.Cond.selects "WordShapesModel" y_M_write y_M_write) ∈ GT := gt_t 897 (by decide +kernel) (by decide +kernel)
set_option maxRecDepth 20000 in
theorem tk_898 : (Jvm.Cond.code y_M_write prog_7_method_44_code 3 (Option.some Jvm.ClassFile.FieldType.int)) ∈ GT := gt_m (List.mem_append_right _ (List.mem_append_right _ (List.mem_append_right _ (List.mem_of_getElem? (i := 178) rfl)))) rfl
theorem tk_899 : (Jvm.Cond.methodLink "WordShapesModel" 214 y_M_putAll) ∈ GT := gt_t 899 (by decide +kernel) (by decide +kernel)
theorem tk_901 : (Jvm.Cond.instanceMethod y_M_putAll) ∈ GT := gt_t 901 (by decide +kernel) (by decide +kernel)
set_option maxRecDepth 20000 in
theorem tk_902 : (Jvm.Cond.code y_M_putAll prog_7_method_43_code 10 (Option.none : Option Jvm.ClassFile.FieldType)) ∈ GT := gt_m (List.mem_append_right _ (List.mem_append_right _ (List.mem_append_right _ (List.mem_of_getElem? (i := 182) rfl)))) rfl
theorem tk_903 : (Jvm.Cond.methodLink "WordShapesModel" 207 y_M_putWord) ∈ GT := gt_t 903 (by decide +kernel) (by decide +kernel)
theorem tk_905 : (Jvm.Cond.instanceMethod y_M_putWord) ∈ GT := gt_t 905 (by decide +kernel) (by decide +kernel)
set_option maxRecDepth 20000 in
theorem tk_906 : (Jvm.Cond.code y_M_putWord prog_7_method_38_code 3 (Option.none : Option Jvm.ClassFile.FieldType)) ∈ GT := gt_m (List.mem_append_right _ (List.mem_append_right _ (List.mem_append_right _ (List.mem_of_getElem? (i := 186) rfl)))) rfl
theorem tk_907 : (Jvm.Cond.methodLink "WordShapesModel" 195 y_M_put) ∈ GT := gt_t 907 (by decide +kernel) (by decide +kernel)
theorem tk_909 : (Jvm.Cond.instanceMethod y_M_put) ∈ GT := gt_t 909 (by decide +kernel) (by decide +kernel)
set_option maxRecDepth 20000 in
theorem tk_910 : (Jvm.Cond.code y_M_put prog_7_method_37_code 2 (Option.none : Option Jvm.ClassFile.FieldType)) ∈ GT := gt_m (List.mem_append_right _ (List.mem_append_right _ (List.mem_append_right _ (List.mem_of_getElem? (i := 190) rfl)))) rfl
theorem tk_911 : (Jvm.Cond.methodLink "WordShapesModel" 210 y_M_putPoints) ∈ GT := gt_t 911 (by decide +kernel) (by decide +kernel)
theorem tk_913 : (Jvm.Cond.instanceMethod y_M_putPoints) ∈ GT := gt_t 913 (by decide +kernel) (by decide +kernel)
set_option maxRecDepth 20000 in
theorem tk_914 : (Jvm.Cond.code y_M_putPoints prog_7_method_42_code 6 (Option.none : Option Jvm.ClassFile.FieldType)) ∈ GT := gt_m (List.mem_append_right _ (List.mem_append_right _ (List.mem_append_right _ (List.mem_of_getElem? (i := 194) rfl)))) rfl
theorem tk_915 : (Jvm.Cond.methodLink "WordShapesModel" 201 y_M_putBetween) ∈ GT := gt_t 915 (by decide +kernel) (by decide +kernel)
theorem tk_917 : (Jvm.Cond.instanceMethod y_M_putBetween) ∈ GT := gt_t 917 (by decide +kernel) (by decide +kernel)
set_option maxRecDepth 20000 in
theorem tk_918 : (Jvm.Cond.code y_M_putBetween prog_7_method_41_code 1 (Option.none : Option Jvm.ClassFile.FieldType)) ∈ GT := gt_m (List.mem_append_right _ (List.mem_append_right _ (List.mem_append_right _ (List.mem_of_getElem? (i := 198) rfl)))) rfl
theorem tk_919 : (Jvm.Cond.methodLink "WordShapesModel" 204 y_M_putNumber) ∈ GT := gt_t 919 (by decide +kernel) (by decide +kernel)
theorem tk_921 : (Jvm.Cond.instanceMethod y_M_putNumber) ∈ GT := gt_t 921 (by decide +kernel) (by decide +kernel)
set_option maxRecDepth 20000 in
theorem tk_922 : (Jvm.Cond.code y_M_putNumber prog_7_method_40_code 7 (Option.none : Option Jvm.ClassFile.FieldType)) ∈ GT := gt_m (List.mem_append_right _ (List.mem_append_right _ (List.mem_append_right _ (List.mem_of_getElem? (i := 202) rfl)))) rfl
theorem tk_923 : (Jvm.Cond.methodLink "WordShapesModel" 198 y_M_ten) ∈ GT := gt_t 923 (by decide +kernel) (by decide +kernel)
theorem tk_924 : (Jvm.Cond.static y_M_ten) ∈ GT := gt_t 924 (by decide +kernel) (by decide +kernel)
set_option maxRecDepth 20000 in
theorem tk_925 : (Jvm.Cond.code y_M_ten prog_7_method_39_code 1 (Option.some Jvm.ClassFile.FieldType.int)) ∈ GT := gt_m (List.mem_append_right _ (List.mem_append_right _ (List.mem_append_right _ (List.mem_of_getElem? (i := 205) rfl)))) rfl
theorem tk_926 : (Jvm.Cond.methodLink "WordShapesLaw" 88 y_M_again) ∈ GT := gt_t 926 (by decide +kernel) (by decide +kernel)
theorem tk_927 : (Jvm.Cond.instanceMethod y_M_again) ∈ GT := gt_t 927 (by decide +kernel) (by decide +kernel)
theorem tk_928 : (Jvm.Cond.selects "WordShapesModel" y_M_again y_M_again) ∈ GT := gt_t 928 (by decide +kernel) (by decide +kernel)
set_option maxRecDepth 20000 in
theorem tk_929 : (Jvm.Cond.code y_M_again prog_7_method_45_code 2 (Option.some Jvm.ClassFile.FieldType.int)) ∈ GT := gt_m (List.mem_append_right _ (List.mem_append_right _ (List.mem_append_right _ (List.mem_of_getElem? (i := 209) rfl)))) rfl
theorem tk_930 : (Jvm.Cond.methodLink "WordShapesLaw" 92 y_M_same) ∈ GT := gt_t 930 (by decide +kernel) (by decide +kernel)
theorem tk_931 : (Jvm.Cond.instanceMethod y_M_same) ∈ GT := gt_t 931 (by decide +kernel) (by decide +kernel)
theorem tk_932 : (Jvm.Cond.selects "WordShapesModel" y_M_same y_M_same) ∈ GT := gt_t 932 (by decide +kernel) (by decide +kernel)
set_option maxRecDepth 20000 in
theorem tk_933 : (Jvm.Cond.code y_M_same prog_7_method_46_code 5 (Option.some Jvm.ClassFile.FieldType.boolean)) ∈ GT := gt_m (List.mem_append_right _ (List.mem_append_right _ (List.mem_append_right _ (List.mem_of_getElem? (i := 213) rfl)))) rfl
theorem tk_934 : (Jvm.Cond.methodLink "WordShapesLaw" 95 y_M_plan) ∈ GT := gt_t 934 (by decide +kernel) (by decide +kernel)
theorem tk_935 : (Jvm.Cond.instanceMethod y_M_plan) ∈ GT := gt_t 935 (by decide +kernel) (by decide +kernel)
theorem tk_936 : (Jvm.Cond.selects "WordShapesModel" y_M_plan y_M_plan) ∈ GT := gt_t 936 (by decide +kernel) (by decide +kernel)
set_option maxRecDepth 20000 in
theorem tk_937 : (Jvm.Cond.code y_M_plan prog_7_method_47_code 3 (Option.some Jvm.ClassFile.FieldType.int)) ∈ GT := gt_m (List.mem_append_right _ (List.mem_append_right _ (List.mem_append_right _ (List.mem_of_getElem? (i := 217) rfl)))) rfl
theorem tk_938 : (Jvm.Cond.methodLink "WordShapesLaw" 99 y_M_ordinate) ∈ GT := gt_t 938 (by decide +kernel) (by decide +kernel)
theorem tk_939 : (Jvm.Cond.instanceMethod y_M_ordinate) ∈ GT := gt_t 939 (by decide +kernel) (by decide +kernel)
theorem tk_940 : (Jvm.Cond.selects "WordShapesModel" y_M_ordinate y_M_ordinate) ∈ GT := gt_t 940 (by decide +kernel) (by decide +kernel)
set_option maxRecDepth 20000 in
theorem tk_941 : (Jvm.Cond.code y_M_ordinate prog_7_method_48_code 4 (Option.some Jvm.ClassFile.FieldType.int)) ∈ GT := gt_m (List.mem_append_right _ (List.mem_append_right _ (List.mem_append_right _ (List.mem_of_getElem? (i := 221) rfl)))) rfl
theorem tk_942 : (Jvm.Cond.methodLink "WordShapesLaw" 102 y_M_byteAt) ∈ GT := gt_t 942 (by decide +kernel) (by decide +kernel)
theorem tk_943 : (Jvm.Cond.instanceMethod y_M_byteAt) ∈ GT := gt_t 943 (by decide +kernel) (by decide +kernel)
theorem tk_944 : (Jvm.Cond.selects "WordShapesModel" y_M_byteAt y_M_byteAt) ∈ GT := gt_t 944 (by decide +kernel) (by decide +kernel)
set_option maxRecDepth 20000 in
theorem tk_945 : (Jvm.Cond.code y_M_byteAt prog_7_method_49_code 2 (Option.some Jvm.ClassFile.FieldType.int)) ∈ GT := gt_m (List.mem_append_right _ (List.mem_append_right _ (List.mem_append_right _ (List.mem_of_getElem? (i := 225) rfl)))) rfl
theorem tk_946 : (Jvm.Cond.methodLink "WordShapesLaw" 105 y_M_count) ∈ GT := gt_t 946 (by decide +kernel) (by decide +kernel)
theorem tk_947 : (Jvm.Cond.instanceMethod y_M_count) ∈ GT := gt_t 947 (by decide +kernel) (by decide +kernel)
theorem tk_948 : (Jvm.Cond.selects "WordShapesModel" y_M_count y_M_count) ∈ GT := gt_t 948 (by decide +kernel) (by decide +kernel)
set_option maxRecDepth 20000 in
theorem tk_949 : (Jvm.Cond.code y_M_count prog_7_method_50_code 3 (Option.some Jvm.ClassFile.FieldType.int)) ∈ GT := gt_m (List.mem_append_right _ (List.mem_append_right _ (List.mem_append_right _ (List.mem_of_getElem? (i := 229) rfl)))) rfl
theorem tk_950 : (Jvm.Cond.arrayClass Jvm.ClassFile.FieldType.long) ∈ GT := gt_t 950 (by decide +kernel) (by decide +kernel)
theorem tq_951 : (Jvm.Cond.sameMethod "java/lang/Throwable" "java/lang/Throwable" "fillInStackTrace" "(I)Ljava/lang/Throwable;") ∈ tables_1 := List.mem_of_getElem? (i := 951) (by decide +kernel)
theorem tk_952 : (Jvm.Cond.fieldLink "java/lang/String" 9 "java/lang/String" "value" "[B") ∈ GT := gt_t 952 (by decide +kernel) (by decide +kernel)
theorem tk_953 : (Jvm.Cond.fieldLink "java/lang/String" 15 "java/lang/String" "coder" "B") ∈ GT := gt_t 953 (by decide +kernel) (by decide +kernel)
end
section
theorem d_W_init_0 : decode k_W_init 0 = .ok (.aload_n 0, 1) := by decide +kernel
theorem d_W_init_1 : decode k_W_init 1 = .ok (.invokespecial 3, 3) := by decide +kernel
theorem d_W_init_4 : decode k_W_init 4 = .ok (.aload_n 0, 1) := by decide +kernel
theorem d_W_init_5 : decode k_W_init 5 = .ok (.iconst 4, 1) := by decide +kernel
theorem d_W_init_6 : decode k_W_init 6 = .ok (.anewarray 9, 3) := by decide +kernel
theorem d_W_init_9 : decode k_W_init 9 = .ok (.putfield 11, 3) := by decide +kernel
theorem d_W_init_12 : decode k_W_init 12 = .ok (.iload_n 1, 1) := by decide +kernel
theorem d_W_init_13 : decode k_W_init 13 = .ok (.iconst 3, 1) := by decide +kernel
theorem d_W_init_14 : decode k_W_init 14 = .ok (.iand, 1) := by decide +kernel
theorem d_W_init_15 : decode k_W_init 15 = .ok (.istore 4, 2) := by decide +kernel
theorem d_W_init_17 : decode k_W_init 17 = .ok (.iconst 1, 1) := by decide +kernel
theorem d_W_init_18 : decode k_W_init 18 = .ok (.iload_n 2, 1) := by decide +kernel
theorem d_W_init_19 : decode k_W_init 19 = .ok (.sipush 4096, 3) := by decide +kernel
theorem d_W_init_22 : decode k_W_init 22 = .ok (.invokestatic 15, 3) := by decide +kernel
theorem d_W_init_25 : decode k_W_init 25 = .ok (.invokestatic 21, 3) := by decide +kernel
theorem d_W_init_28 : decode k_W_init 28 = .ok (.istore 5, 2) := by decide +kernel
theorem d_W_init_30 : decode k_W_init 30 = .ok (.iconst 2, 1) := by decide +kernel
theorem d_W_init_31 : decode k_W_init 31 = .ok (.iload_n 3, 1) := by decide +kernel
theorem d_W_init_32 : decode k_W_init 32 = .ok (.sipush 4096, 3) := by decide +kernel
theorem d_W_init_35 : decode k_W_init 35 = .ok (.invokestatic 15, 3) := by decide +kernel
theorem d_W_init_38 : decode k_W_init 38 = .ok (.invokestatic 21, 3) := by decide +kernel
theorem d_W_init_41 : decode k_W_init 41 = .ok (.istore 6, 2) := by decide +kernel
theorem d_W_init_43 : decode k_W_init 43 = .ok (.iconst 0, 1) := by decide +kernel
theorem d_W_init_44 : decode k_W_init 44 = .ok (.istore 7, 2) := by decide +kernel
theorem d_W_init_46 : decode k_W_init 46 = .ok (.iload 7, 2) := by decide +kernel
theorem d_W_init_48 : decode k_W_init 48 = .ok (.iconst 4, 1) := by decide +kernel
theorem d_W_init_49 : decode k_W_init 49 = .ok (.if_icmp .ge 27, 3) := by decide +kernel
theorem d_W_init_52 : decode k_W_init 52 = .ok (.aload_n 0, 1) := by decide +kernel
theorem d_W_init_53 : decode k_W_init 53 = .ok (.getfield 11, 3) := by decide +kernel
theorem d_W_init_56 : decode k_W_init 56 = .ok (.iload 7, 2) := by decide +kernel
theorem d_W_init_58 : decode k_W_init 58 = .ok (.new 9, 3) := by decide +kernel
theorem d_W_init_61 : decode k_W_init 61 = .ok (.dup, 1) := by decide +kernel
theorem d_W_init_62 : decode k_W_init 62 = .ok (.iload 6, 2) := by decide +kernel
theorem d_W_init_64 : decode k_W_init 64 = .ok (.iload 5, 2) := by decide +kernel
theorem d_W_init_66 : decode k_W_init 66 = .ok (.invokespecial 24, 3) := by decide +kernel
theorem d_W_init_69 : decode k_W_init 69 = .ok (.aastore, 1) := by decide +kernel
theorem d_W_init_70 : decode k_W_init 70 = .ok (.iinc 7 1, 3) := by decide +kernel
theorem d_W_init_73 : decode k_W_init 73 = .ok (.goto (-27), 3) := by decide +kernel
theorem d_W_init_76 : decode k_W_init 76 = .ok (.ldc 27, 2) := by decide +kernel
theorem d_W_init_78 : decode k_W_init 78 = .ok (.newarray .byte, 2) := by decide +kernel
theorem d_W_init_80 : decode k_W_init 80 = .ok (.astore 7, 2) := by decide +kernel
theorem d_W_init_82 : decode k_W_init 82 = .ok (.aload_n 0, 1) := by decide +kernel
theorem d_W_init_83 : decode k_W_init 83 = .ok (.aload 7, 2) := by decide +kernel
theorem d_W_init_85 : decode k_W_init 85 = .ok (.putfield 28, 3) := by decide +kernel
theorem d_W_init_88 : decode k_W_init 88 = .ok (.aload_n 0, 1) := by decide +kernel
theorem d_W_init_89 : decode k_W_init 89 = .ok (.new 32, 3) := by decide +kernel
theorem d_W_init_92 : decode k_W_init 92 = .ok (.dup, 1) := by decide +kernel
theorem d_W_init_93 : decode k_W_init 93 = .ok (.aload 7, 2) := by decide +kernel
theorem d_W_init_95 : decode k_W_init 95 = .ok (.iload 4, 2) := by decide +kernel
theorem d_W_init_97 : decode k_W_init 97 = .ok (.new 9, 3) := by decide +kernel
theorem d_W_init_100 : decode k_W_init 100 = .ok (.dup, 1) := by decide +kernel
theorem d_W_init_101 : decode k_W_init 101 = .ok (.iload 6, 2) := by decide +kernel
theorem d_W_init_103 : decode k_W_init 103 = .ok (.iload 5, 2) := by decide +kernel
theorem d_W_init_105 : decode k_W_init 105 = .ok (.invokespecial 24, 3) := by decide +kernel
theorem d_W_init_108 : decode k_W_init 108 = .ok (.invokespecial 34, 3) := by decide +kernel
theorem d_W_init_111 : decode k_W_init 111 = .ok (.putfield 37, 3) := by decide +kernel
theorem d_W_init_114 : decode k_W_init 114 = .ok (.aload_n 0, 1) := by decide +kernel
theorem d_W_init_115 : decode k_W_init 115 = .ok (.new 41, 3) := by decide +kernel
theorem d_W_init_118 : decode k_W_init 118 = .ok (.dup, 1) := by decide +kernel
theorem d_W_init_119 : decode k_W_init 119 = .ok (.iload 4, 2) := by decide +kernel
theorem d_W_init_121 : decode k_W_init 121 = .ok (.invokespecial 43, 3) := by decide +kernel
theorem d_W_init_124 : decode k_W_init 124 = .ok (.putfield 46, 3) := by decide +kernel
theorem d_W_init_127 : decode k_W_init 127 = .ok (.return_, 1) := by decide +kernel
theorem d_W_feed_0 : decode k_W_feed 0 = .ok (.aload_n 0, 1) := by decide +kernel
theorem d_W_feed_1 : decode k_W_feed 1 = .ok (.getfield 50, 3) := by decide +kernel
theorem d_W_feed_4 : decode k_W_feed 4 = .ok (.ldc 54, 2) := by decide +kernel
theorem d_W_feed_6 : decode k_W_feed 6 = .ok (.if_icmp .le 13, 3) := by decide +kernel
theorem d_W_feed_9 : decode k_W_feed 9 = .ok (.new 55, 3) := by decide +kernel
theorem d_W_feed_12 : decode k_W_feed 12 = .ok (.dup, 1) := by decide +kernel
theorem d_W_feed_13 : decode k_W_feed 13 = .ok (.ldc 57, 2) := by decide +kernel
theorem d_W_feed_15 : decode k_W_feed 15 = .ok (.invokespecial 59, 3) := by decide +kernel
theorem d_W_feed_18 : decode k_W_feed 18 = .ok (.athrow, 1) := by decide +kernel
theorem d_W_feed_19 : decode k_W_feed 19 = .ok (.aload_n 0, 1) := by decide +kernel
theorem d_W_feed_20 : decode k_W_feed 20 = .ok (.iload_n 1, 1) := by decide +kernel
theorem d_W_feed_21 : decode k_W_feed 21 = .ok (.invokevirtual 62, 3) := by decide +kernel
theorem d_W_feed_24 : decode k_W_feed 24 = .ok (.aload_n 0, 1) := by decide +kernel
theorem d_W_feed_25 : decode k_W_feed 25 = .ok (.iload_n 2, 1) := by decide +kernel
theorem d_W_feed_26 : decode k_W_feed 26 = .ok (.invokevirtual 62, 3) := by decide +kernel
theorem d_W_feed_29 : decode k_W_feed 29 = .ok (.aload_n 0, 1) := by decide +kernel
theorem d_W_feed_30 : decode k_W_feed 30 = .ok (.iload_n 3, 1) := by decide +kernel
theorem d_W_feed_31 : decode k_W_feed 31 = .ok (.invokevirtual 62, 3) := by decide +kernel
theorem d_W_feed_34 : decode k_W_feed 34 = .ok (.aload_n 0, 1) := by decide +kernel
theorem d_W_feed_35 : decode k_W_feed 35 = .ok (.iload 4, 2) := by decide +kernel
theorem d_W_feed_37 : decode k_W_feed 37 = .ok (.invokevirtual 62, 3) := by decide +kernel
theorem d_W_feed_40 : decode k_W_feed 40 = .ok (.aload_n 0, 1) := by decide +kernel
theorem d_W_feed_41 : decode k_W_feed 41 = .ok (.iload 5, 2) := by decide +kernel
theorem d_W_feed_43 : decode k_W_feed 43 = .ok (.invokevirtual 62, 3) := by decide +kernel
theorem d_W_feed_46 : decode k_W_feed 46 = .ok (.aload_n 0, 1) := by decide +kernel
theorem d_W_feed_47 : decode k_W_feed 47 = .ok (.getfield 50, 3) := by decide +kernel
theorem d_W_feed_50 : decode k_W_feed 50 = .ok (.ireturn, 1) := by decide +kernel
theorem d_W_end_0 : decode k_W_end 0 = .ok (.iload_n 1, 1) := by decide +kernel
theorem d_W_end_1 : decode k_W_end 1 = .ok (.ifCond .lt 9, 3) := by decide +kernel
theorem d_W_end_4 : decode k_W_end 4 = .ok (.iload_n 1, 1) := by decide +kernel
theorem d_W_end_5 : decode k_W_end 5 = .ok (.bipush 20, 2) := by decide +kernel
theorem d_W_end_7 : decode k_W_end 7 = .ok (.if_icmp .le 13, 3) := by decide +kernel
theorem d_W_end_10 : decode k_W_end 10 = .ok (.new 65, 3) := by decide +kernel
theorem d_W_end_13 : decode k_W_end 13 = .ok (.dup, 1) := by decide +kernel
theorem d_W_end_14 : decode k_W_end 14 = .ok (.ldc 67, 2) := by decide +kernel
theorem d_W_end_16 : decode k_W_end 16 = .ok (.invokespecial 69, 3) := by decide +kernel
theorem d_W_end_19 : decode k_W_end 19 = .ok (.athrow, 1) := by decide +kernel
theorem d_W_end_20 : decode k_W_end 20 = .ok (.aload_n 0, 1) := by decide +kernel
theorem d_W_end_21 : decode k_W_end 21 = .ok (.getfield 50, 3) := by decide +kernel
theorem d_W_end_24 : decode k_W_end 24 = .ok (.bipush 20, 2) := by decide +kernel
theorem d_W_end_26 : decode k_W_end 26 = .ok (.if_icmp .ge 13, 3) := by decide +kernel
theorem d_W_end_29 : decode k_W_end 29 = .ok (.new 55, 3) := by decide +kernel
theorem d_W_end_32 : decode k_W_end 32 = .ok (.dup, 1) := by decide +kernel
theorem d_W_end_33 : decode k_W_end 33 = .ok (.ldc 70, 2) := by decide +kernel
theorem d_W_end_35 : decode k_W_end 35 = .ok (.invokespecial 59, 3) := by decide +kernel
theorem d_W_end_38 : decode k_W_end 38 = .ok (.athrow, 1) := by decide +kernel
theorem d_W_end_39 : decode k_W_end 39 = .ok (.aload_n 0, 1) := by decide +kernel
theorem d_W_end_40 : decode k_W_end 40 = .ok (.aload_n 0, 1) := by decide +kernel
theorem d_W_end_41 : decode k_W_end 41 = .ok (.getfield 50, 3) := by decide +kernel
theorem d_W_end_44 : decode k_W_end 44 = .ok (.bipush 20, 2) := by decide +kernel
theorem d_W_end_46 : decode k_W_end 46 = .ok (.isub, 1) := by decide +kernel
theorem d_W_end_47 : decode k_W_end 47 = .ok (.iload_n 1, 1) := by decide +kernel
theorem d_W_end_48 : decode k_W_end 48 = .ok (.iadd, 1) := by decide +kernel
theorem d_W_end_49 : decode k_W_end 49 = .ok (.putfield 50, 3) := by decide +kernel
theorem d_W_end_52 : decode k_W_end 52 = .ok (.aload_n 0, 1) := by decide +kernel
theorem d_W_end_53 : decode k_W_end 53 = .ok (.getfield 50, 3) := by decide +kernel
theorem d_W_end_56 : decode k_W_end 56 = .ok (.ireturn, 1) := by decide +kernel
theorem d_W_read_0 : decode k_W_read 0 = .ok (.aload_n 0, 1) := by decide +kernel
theorem d_W_read_1 : decode k_W_read 1 = .ok (.getfield 50, 3) := by decide +kernel
theorem d_W_read_4 : decode k_W_read 4 = .ok (.istore_n 2, 1) := by decide +kernel
theorem d_W_read_5 : decode k_W_read 5 = .ok (.aload_n 0, 1) := by decide +kernel
theorem d_W_read_6 : decode k_W_read 6 = .ok (.iconst 0, 1) := by decide +kernel
theorem d_W_read_7 : decode k_W_read 7 = .ok (.putfield 50, 3) := by decide +kernel
theorem d_W_read_10 : decode k_W_read 10 = .ok (.aload_n 0, 1) := by decide +kernel
theorem d_W_read_11 : decode k_W_read 11 = .ok (.iload_n 1, 1) := by decide +kernel
theorem d_W_read_12 : decode k_W_read 12 = .ok (.invokevirtual 72, 3) := by decide +kernel
theorem d_W_read_15 : decode k_W_read 15 = .ok (.astore_n 3, 1) := by decide +kernel
theorem d_W_read_16 : decode k_W_read 16 = .ok (.aload_n 3, 1) := by decide +kernel
theorem d_W_read_17 : decode k_W_read 17 = .ok (.invokevirtual 76, 3) := by decide +kernel
theorem d_W_read_20 : decode k_W_read 20 = .ok (.aload_n 0, 1) := by decide +kernel
theorem d_W_read_21 : decode k_W_read 21 = .ok (.getfield 37, 3) := by decide +kernel
theorem d_W_read_24 : decode k_W_read 24 = .ok (.iload_n 2, 1) := by decide +kernel
theorem d_W_read_25 : decode k_W_read 25 = .ok (.invokevirtual 79, 3) := by decide +kernel
theorem d_W_read_28 : decode k_W_read 28 = .ok (.aload_n 3, 1) := by decide +kernel
theorem d_W_read_29 : decode k_W_read 29 = .ok (.aload_n 0, 1) := by decide +kernel
theorem d_W_read_30 : decode k_W_read 30 = .ok (.getfield 37, 3) := by decide +kernel
theorem d_W_read_33 : decode k_W_read 33 = .ok (.getfield 82, 3) := by decide +kernel
theorem d_W_read_36 : decode k_W_read 36 = .ok (.invokevirtual 86, 3) := by decide +kernel
theorem d_W_read_39 : decode k_W_read 39 = .ok (.aload_n 3, 1) := by decide +kernel
theorem d_W_read_40 : decode k_W_read 40 = .ok (.iconst 0, 1) := by decide +kernel
theorem d_W_read_41 : decode k_W_read 41 = .ok (.invokevirtual 90, 3) := by decide +kernel
theorem d_W_read_44 : decode k_W_read 44 = .ok (.ireturn, 1) := by decide +kernel
theorem d_W_fault_0 : decode k_W_fault 0 = .ok (.iload_n 1, 1) := by decide +kernel
theorem d_W_fault_1 : decode k_W_fault 1 = .ok (.ifCond .ne 11, 3) := by decide +kernel
theorem d_W_fault_4 : decode k_W_fault 4 = .ok (.aload_n 0, 1) := by decide +kernel
theorem d_W_fault_5 : decode k_W_fault 5 = .ok (.getfield 37, 3) := by decide +kernel
theorem d_W_fault_8 : decode k_W_fault 8 = .ok (.getfield 94, 3) := by decide +kernel
theorem d_W_fault_11 : decode k_W_fault 11 = .ok (.ireturn, 1) := by decide +kernel
theorem d_W_fault_12 : decode k_W_fault 12 = .ok (.iload_n 1, 1) := by decide +kernel
theorem d_W_fault_13 : decode k_W_fault 13 = .ok (.iconst 1, 1) := by decide +kernel
theorem d_W_fault_14 : decode k_W_fault 14 = .ok (.if_icmp .ne 11, 3) := by decide +kernel
theorem d_W_fault_17 : decode k_W_fault 17 = .ok (.aload_n 0, 1) := by decide +kernel
theorem d_W_fault_18 : decode k_W_fault 18 = .ok (.getfield 37, 3) := by decide +kernel
theorem d_W_fault_21 : decode k_W_fault 21 = .ok (.getfield 97, 3) := by decide +kernel
theorem d_W_fault_24 : decode k_W_fault 24 = .ok (.ireturn, 1) := by decide +kernel
theorem d_W_fault_25 : decode k_W_fault 25 = .ok (.new 100, 3) := by decide +kernel
theorem d_W_fault_28 : decode k_W_fault 28 = .ok (.dup, 1) := by decide +kernel
theorem d_W_fault_29 : decode k_W_fault 29 = .ok (.ldc 102, 2) := by decide +kernel
theorem d_W_fault_31 : decode k_W_fault 31 = .ok (.invokespecial 104, 3) := by decide +kernel
theorem d_W_fault_34 : decode k_W_fault 34 = .ok (.athrow, 1) := by decide +kernel
theorem d_W_write_0 : decode k_W_write 0 = .ok (.aload_n 0, 1) := by decide +kernel
theorem d_W_write_1 : decode k_W_write 1 = .ok (.iload_n 1, 1) := by decide +kernel
theorem d_W_write_2 : decode k_W_write 2 = .ok (.invokevirtual 72, 3) := by decide +kernel
theorem d_W_write_5 : decode k_W_write 5 = .ok (.astore_n 2, 1) := by decide +kernel
theorem d_W_write_6 : decode k_W_write 6 = .ok (.aload_n 2, 1) := by decide +kernel
theorem d_W_write_7 : decode k_W_write 7 = .ok (.invokevirtual 105, 3) := by decide +kernel
theorem d_W_write_10 : decode k_W_write 10 = .ok (.ifCond .eq 13, 3) := by decide +kernel
theorem d_W_write_13 : decode k_W_write 13 = .ok (.new 55, 3) := by decide +kernel
theorem d_W_write_16 : decode k_W_write 16 = .ok (.dup, 1) := by decide +kernel
theorem d_W_write_17 : decode k_W_write 17 = .ok (.ldc 109, 2) := by decide +kernel
theorem d_W_write_19 : decode k_W_write 19 = .ok (.invokespecial 59, 3) := by decide +kernel
theorem d_W_write_22 : decode k_W_write 22 = .ok (.athrow, 1) := by decide +kernel
theorem d_W_write_23 : decode k_W_write 23 = .ok (.aload_n 0, 1) := by decide +kernel
theorem d_W_write_24 : decode k_W_write 24 = .ok (.getfield 46, 3) := by decide +kernel
theorem d_W_write_27 : decode k_W_write 27 = .ok (.aload_n 2, 1) := by decide +kernel
theorem d_W_write_28 : decode k_W_write 28 = .ok (.iconst 0, 1) := by decide +kernel
theorem d_W_write_29 : decode k_W_write 29 = .ok (.invokevirtual 111, 3) := by decide +kernel
theorem d_W_write_32 : decode k_W_write 32 = .ok (.ldc 115, 2) := by decide +kernel
theorem d_W_write_34 : decode k_W_write 34 = .ok (.if_icmp .le 13, 3) := by decide +kernel
theorem d_W_write_37 : decode k_W_write 37 = .ok (.new 116, 3) := by decide +kernel
theorem d_W_write_40 : decode k_W_write 40 = .ok (.dup, 1) := by decide +kernel
theorem d_W_write_41 : decode k_W_write 41 = .ok (.ldc 118, 2) := by decide +kernel
theorem d_W_write_43 : decode k_W_write 43 = .ok (.invokespecial 120, 3) := by decide +kernel
theorem d_W_write_46 : decode k_W_write 46 = .ok (.athrow, 1) := by decide +kernel
theorem d_W_write_47 : decode k_W_write 47 = .ok (.aload_n 0, 1) := by decide +kernel
theorem d_W_write_48 : decode k_W_write 48 = .ok (.getfield 46, 3) := by decide +kernel
theorem d_W_write_51 : decode k_W_write 51 = .ok (.aload_n 0, 1) := by decide +kernel
theorem d_W_write_52 : decode k_W_write 52 = .ok (.getfield 46, 3) := by decide +kernel
theorem d_W_write_55 : decode k_W_write 55 = .ok (.aload_n 2, 1) := by decide +kernel
theorem d_W_write_56 : decode k_W_write 56 = .ok (.iconst 1, 1) := by decide +kernel
theorem d_W_write_57 : decode k_W_write 57 = .ok (.invokevirtual 111, 3) := by decide +kernel
theorem d_W_write_60 : decode k_W_write 60 = .ok (.putfield 121, 3) := by decide +kernel
theorem d_W_write_63 : decode k_W_write 63 = .ok (.aload_n 0, 1) := by decide +kernel
theorem d_W_write_64 : decode k_W_write 64 = .ok (.getfield 46, 3) := by decide +kernel
theorem d_W_write_67 : decode k_W_write 67 = .ok (.getfield 121, 3) := by decide +kernel
theorem d_W_write_70 : decode k_W_write 70 = .ok (.ireturn, 1) := by decide +kernel
theorem d_W_again_0 : decode k_W_again 0 = .ok (.aload_n 0, 1) := by decide +kernel
theorem d_W_again_1 : decode k_W_again 1 = .ok (.aload_n 0, 1) := by decide +kernel
theorem d_W_again_2 : decode k_W_again 2 = .ok (.getfield 46, 3) := by decide +kernel
theorem d_W_again_5 : decode k_W_again 5 = .ok (.getfield 121, 3) := by decide +kernel
theorem d_W_again_8 : decode k_W_again 8 = .ok (.ldc 27, 2) := by decide +kernel
theorem d_W_again_10 : decode k_W_again 10 = .ok (.invokestatic 15, 3) := by decide +kernel
theorem d_W_again_13 : decode k_W_again 13 = .ok (.putfield 50, 3) := by decide +kernel
theorem d_W_again_16 : decode k_W_again 16 = .ok (.aload_n 0, 1) := by decide +kernel
theorem d_W_again_17 : decode k_W_again 17 = .ok (.getfield 46, 3) := by decide +kernel
theorem d_W_again_20 : decode k_W_again 20 = .ok (.getfield 124, 3) := by decide +kernel
theorem d_W_again_23 : decode k_W_again 23 = .ok (.iconst 0, 1) := by decide +kernel
theorem d_W_again_24 : decode k_W_again 24 = .ok (.aload_n 0, 1) := by decide +kernel
theorem d_W_again_25 : decode k_W_again 25 = .ok (.getfield 28, 3) := by decide +kernel
theorem d_W_again_28 : decode k_W_again 28 = .ok (.iconst 0, 1) := by decide +kernel
theorem d_W_again_29 : decode k_W_again 29 = .ok (.aload_n 0, 1) := by decide +kernel
theorem d_W_again_30 : decode k_W_again 30 = .ok (.getfield 50, 3) := by decide +kernel
theorem d_W_again_33 : decode k_W_again 33 = .ok (.invokestatic 127, 3) := by decide +kernel
theorem d_W_again_36 : decode k_W_again 36 = .ok (.aload_n 0, 1) := by decide +kernel
theorem d_W_again_37 : decode k_W_again 37 = .ok (.getfield 50, 3) := by decide +kernel
theorem d_W_again_40 : decode k_W_again 40 = .ok (.ireturn, 1) := by decide +kernel
theorem d_W_same_0 : decode k_W_same 0 = .ok (.aload_n 0, 1) := by decide +kernel
theorem d_W_same_1 : decode k_W_same 1 = .ok (.iload_n 1, 1) := by decide +kernel
theorem d_W_same_2 : decode k_W_same 2 = .ok (.invokevirtual 72, 3) := by decide +kernel
theorem d_W_same_5 : decode k_W_same 5 = .ok (.astore_n 3, 1) := by decide +kernel
theorem d_W_same_6 : decode k_W_same 6 = .ok (.aload_n 0, 1) := by decide +kernel
theorem d_W_same_7 : decode k_W_same 7 = .ok (.iload_n 2, 1) := by decide +kernel
theorem d_W_same_8 : decode k_W_same 8 = .ok (.invokevirtual 72, 3) := by decide +kernel
theorem d_W_same_11 : decode k_W_same 11 = .ok (.astore 4, 2) := by decide +kernel
theorem d_W_same_13 : decode k_W_same 13 = .ok (.aload_n 3, 1) := by decide +kernel
theorem d_W_same_14 : decode k_W_same 14 = .ok (.aload 4, 2) := by decide +kernel
theorem d_W_same_16 : decode k_W_same 16 = .ok (.invokevirtual 133, 3) := by decide +kernel
theorem d_W_same_19 : decode k_W_same 19 = .ok (.ireturn, 1) := by decide +kernel
theorem d_W_plan_0 : decode k_W_plan 0 = .ok (.aload_n 0, 1) := by decide +kernel
theorem d_W_plan_1 : decode k_W_plan 1 = .ok (.iload_n 1, 1) := by decide +kernel
theorem d_W_plan_2 : decode k_W_plan 2 = .ok (.invokevirtual 72, 3) := by decide +kernel
theorem d_W_plan_5 : decode k_W_plan 5 = .ok (.astore_n 3, 1) := by decide +kernel
theorem d_W_plan_6 : decode k_W_plan 6 = .ok (.iload_n 2, 1) := by decide +kernel
theorem d_W_plan_7 : decode k_W_plan 7 = .ok (.ifCond .lt 11, 3) := by decide +kernel
theorem d_W_plan_10 : decode k_W_plan 10 = .ok (.iload_n 2, 1) := by decide +kernel
theorem d_W_plan_11 : decode k_W_plan 11 = .ok (.aload_n 3, 1) := by decide +kernel
theorem d_W_plan_12 : decode k_W_plan 12 = .ok (.getfield 137, 3) := by decide +kernel
theorem d_W_plan_15 : decode k_W_plan 15 = .ok (.if_icmp .lt 13, 3) := by decide +kernel
theorem d_W_plan_18 : decode k_W_plan 18 = .ok (.new 100, 3) := by decide +kernel
theorem d_W_plan_21 : decode k_W_plan 21 = .ok (.dup, 1) := by decide +kernel
theorem d_W_plan_22 : decode k_W_plan 22 = .ok (.ldc 140, 2) := by decide +kernel
theorem d_W_plan_24 : decode k_W_plan 24 = .ok (.invokespecial 104, 3) := by decide +kernel
theorem d_W_plan_27 : decode k_W_plan 27 = .ok (.athrow, 1) := by decide +kernel
theorem d_W_plan_28 : decode k_W_plan 28 = .ok (.aload_n 3, 1) := by decide +kernel
theorem d_W_plan_29 : decode k_W_plan 29 = .ok (.iload_n 2, 1) := by decide +kernel
theorem d_W_plan_30 : decode k_W_plan 30 = .ok (.invokevirtual 90, 3) := by decide +kernel
theorem d_W_plan_33 : decode k_W_plan 33 = .ok (.ireturn, 1) := by decide +kernel
theorem d_W_ordinate_0 : decode k_W_ordinate 0 = .ok (.aload_n 0, 1) := by decide +kernel
theorem d_W_ordinate_1 : decode k_W_ordinate 1 = .ok (.iload_n 1, 1) := by decide +kernel
theorem d_W_ordinate_2 : decode k_W_ordinate 2 = .ok (.invokevirtual 72, 3) := by decide +kernel
theorem d_W_ordinate_5 : decode k_W_ordinate 5 = .ok (.astore 4, 2) := by decide +kernel
theorem d_W_ordinate_7 : decode k_W_ordinate 7 = .ok (.iload_n 2, 1) := by decide +kernel
theorem d_W_ordinate_8 : decode k_W_ordinate 8 = .ok (.ifCond .lt 12, 3) := by decide +kernel
theorem d_W_ordinate_11 : decode k_W_ordinate 11 = .ok (.iload_n 2, 1) := by decide +kernel
theorem d_W_ordinate_12 : decode k_W_ordinate 12 = .ok (.aload 4, 2) := by decide +kernel
theorem d_W_ordinate_14 : decode k_W_ordinate 14 = .ok (.getfield 142, 3) := by decide +kernel
theorem d_W_ordinate_17 : decode k_W_ordinate 17 = .ok (.if_icmp .lt 13, 3) := by decide +kernel
theorem d_W_ordinate_20 : decode k_W_ordinate 20 = .ok (.new 100, 3) := by decide +kernel
theorem d_W_ordinate_23 : decode k_W_ordinate 23 = .ok (.dup, 1) := by decide +kernel
theorem d_W_ordinate_24 : decode k_W_ordinate 24 = .ok (.ldc 145, 2) := by decide +kernel
theorem d_W_ordinate_26 : decode k_W_ordinate 26 = .ok (.invokespecial 104, 3) := by decide +kernel
theorem d_W_ordinate_29 : decode k_W_ordinate 29 = .ok (.athrow, 1) := by decide +kernel
theorem d_W_ordinate_30 : decode k_W_ordinate 30 = .ok (.iload_n 3, 1) := by decide +kernel
theorem d_W_ordinate_31 : decode k_W_ordinate 31 = .ok (.ifCond .lt 8, 3) := by decide +kernel
theorem d_W_ordinate_34 : decode k_W_ordinate 34 = .ok (.iload_n 3, 1) := by decide +kernel
theorem d_W_ordinate_35 : decode k_W_ordinate 35 = .ok (.iconst 1, 1) := by decide +kernel
theorem d_W_ordinate_36 : decode k_W_ordinate 36 = .ok (.if_icmp .le 13, 3) := by decide +kernel
theorem d_W_ordinate_39 : decode k_W_ordinate 39 = .ok (.new 100, 3) := by decide +kernel
theorem d_W_ordinate_42 : decode k_W_ordinate 42 = .ok (.dup, 1) := by decide +kernel
theorem d_W_ordinate_43 : decode k_W_ordinate 43 = .ok (.ldc 147, 2) := by decide +kernel
theorem d_W_ordinate_45 : decode k_W_ordinate 45 = .ok (.invokespecial 104, 3) := by decide +kernel
theorem d_W_ordinate_48 : decode k_W_ordinate 48 = .ok (.athrow, 1) := by decide +kernel
theorem d_W_ordinate_49 : decode k_W_ordinate 49 = .ok (.aload 4, 2) := by decide +kernel
theorem d_W_ordinate_51 : decode k_W_ordinate 51 = .ok (.iload_n 2, 1) := by decide +kernel
theorem d_W_ordinate_52 : decode k_W_ordinate 52 = .ok (.iload_n 3, 1) := by decide +kernel
theorem d_W_ordinate_53 : decode k_W_ordinate 53 = .ok (.invokevirtual 149, 3) := by decide +kernel
theorem d_W_ordinate_56 : decode k_W_ordinate 56 = .ok (.ireturn, 1) := by decide +kernel
theorem d_W_byteAt_0 : decode k_W_byteAt 0 = .ok (.iload_n 1, 1) := by decide +kernel
theorem d_W_byteAt_1 : decode k_W_byteAt 1 = .ok (.ifCond .lt 14, 3) := by decide +kernel
theorem d_W_byteAt_4 : decode k_W_byteAt 4 = .ok (.iload_n 1, 1) := by decide +kernel
theorem d_W_byteAt_5 : decode k_W_byteAt 5 = .ok (.aload_n 0, 1) := by decide +kernel
theorem d_W_byteAt_6 : decode k_W_byteAt 6 = .ok (.getfield 46, 3) := by decide +kernel
theorem d_W_byteAt_9 : decode k_W_byteAt 9 = .ok (.getfield 121, 3) := by decide +kernel
theorem d_W_byteAt_12 : decode k_W_byteAt 12 = .ok (.if_icmp .lt 13, 3) := by decide +kernel
theorem d_W_byteAt_15 : decode k_W_byteAt 15 = .ok (.new 100, 3) := by decide +kernel
theorem d_W_byteAt_18 : decode k_W_byteAt 18 = .ok (.dup, 1) := by decide +kernel
theorem d_W_byteAt_19 : decode k_W_byteAt 19 = .ok (.ldc 152, 2) := by decide +kernel
theorem d_W_byteAt_21 : decode k_W_byteAt 21 = .ok (.invokespecial 104, 3) := by decide +kernel
theorem d_W_byteAt_24 : decode k_W_byteAt 24 = .ok (.athrow, 1) := by decide +kernel
theorem d_W_byteAt_25 : decode k_W_byteAt 25 = .ok (.aload_n 0, 1) := by decide +kernel
theorem d_W_byteAt_26 : decode k_W_byteAt 26 = .ok (.getfield 46, 3) := by decide +kernel
theorem d_W_byteAt_29 : decode k_W_byteAt 29 = .ok (.getfield 124, 3) := by decide +kernel
theorem d_W_byteAt_32 : decode k_W_byteAt 32 = .ok (.iload_n 1, 1) := by decide +kernel
theorem d_W_byteAt_33 : decode k_W_byteAt 33 = .ok (.baload, 1) := by decide +kernel
theorem d_W_byteAt_34 : decode k_W_byteAt 34 = .ok (.sipush 255, 3) := by decide +kernel
theorem d_W_byteAt_37 : decode k_W_byteAt 37 = .ok (.iand, 1) := by decide +kernel
theorem d_W_byteAt_38 : decode k_W_byteAt 38 = .ok (.ireturn, 1) := by decide +kernel
theorem d_W_count_0 : decode k_W_count 0 = .ok (.aload_n 0, 1) := by decide +kernel
theorem d_W_count_1 : decode k_W_count 1 = .ok (.iload_n 1, 1) := by decide +kernel
theorem d_W_count_2 : decode k_W_count 2 = .ok (.invokevirtual 72, 3) := by decide +kernel
theorem d_W_count_5 : decode k_W_count 5 = .ok (.astore_n 3, 1) := by decide +kernel
theorem d_W_count_6 : decode k_W_count 6 = .ok (.iload_n 2, 1) := by decide +kernel
theorem d_W_count_7 : decode k_W_count 7 = .ok (.tableswitch 52 0 3 #[29, 34, 39, 44], 29) := by decide +kernel
theorem d_W_count_36 : decode k_W_count 36 = .ok (.aload_n 3, 1) := by decide +kernel
theorem d_W_count_37 : decode k_W_count 37 = .ok (.getfield 137, 3) := by decide +kernel
theorem d_W_count_40 : decode k_W_count 40 = .ok (.ireturn, 1) := by decide +kernel
theorem d_W_count_41 : decode k_W_count 41 = .ok (.aload_n 3, 1) := by decide +kernel
theorem d_W_count_42 : decode k_W_count 42 = .ok (.getfield 142, 3) := by decide +kernel
theorem d_W_count_45 : decode k_W_count 45 = .ok (.ireturn, 1) := by decide +kernel
theorem d_W_count_46 : decode k_W_count 46 = .ok (.aload_n 0, 1) := by decide +kernel
theorem d_W_count_47 : decode k_W_count 47 = .ok (.getfield 50, 3) := by decide +kernel
theorem d_W_count_50 : decode k_W_count 50 = .ok (.ireturn, 1) := by decide +kernel
theorem d_W_count_51 : decode k_W_count 51 = .ok (.aload_n 0, 1) := by decide +kernel
theorem d_W_count_52 : decode k_W_count 52 = .ok (.getfield 46, 3) := by decide +kernel
theorem d_W_count_55 : decode k_W_count 55 = .ok (.getfield 121, 3) := by decide +kernel
theorem d_W_count_58 : decode k_W_count 58 = .ok (.ireturn, 1) := by decide +kernel
theorem d_W_count_59 : decode k_W_count 59 = .ok (.new 100, 3) := by decide +kernel
theorem d_W_count_62 : decode k_W_count 62 = .ok (.dup, 1) := by decide +kernel
theorem d_W_count_63 : decode k_W_count 63 = .ok (.ldc 154, 2) := by decide +kernel
theorem d_W_count_65 : decode k_W_count 65 = .ok (.invokespecial 104, 3) := by decide +kernel
theorem d_W_count_68 : decode k_W_count 68 = .ok (.athrow, 1) := by decide +kernel
theorem d_W_shapeIn_0 : decode k_W_shapeIn 0 = .ok (.iload_n 1, 1) := by decide +kernel
theorem d_W_shapeIn_1 : decode k_W_shapeIn 1 = .ok (.ifCond .lt 8, 3) := by decide +kernel
theorem d_W_shapeIn_4 : decode k_W_shapeIn 4 = .ok (.iload_n 1, 1) := by decide +kernel
theorem d_W_shapeIn_5 : decode k_W_shapeIn 5 = .ok (.iconst 4, 1) := by decide +kernel
theorem d_W_shapeIn_6 : decode k_W_shapeIn 6 = .ok (.if_icmp .lt 13, 3) := by decide +kernel
theorem d_W_shapeIn_9 : decode k_W_shapeIn 9 = .ok (.new 100, 3) := by decide +kernel
theorem d_W_shapeIn_12 : decode k_W_shapeIn 12 = .ok (.dup, 1) := by decide +kernel
theorem d_W_shapeIn_13 : decode k_W_shapeIn 13 = .ok (.ldc 156, 2) := by decide +kernel
theorem d_W_shapeIn_15 : decode k_W_shapeIn 15 = .ok (.invokespecial 104, 3) := by decide +kernel
theorem d_W_shapeIn_18 : decode k_W_shapeIn 18 = .ok (.athrow, 1) := by decide +kernel
theorem d_W_shapeIn_19 : decode k_W_shapeIn 19 = .ok (.aload_n 0, 1) := by decide +kernel
theorem d_W_shapeIn_20 : decode k_W_shapeIn 20 = .ok (.getfield 11, 3) := by decide +kernel
theorem d_W_shapeIn_23 : decode k_W_shapeIn 23 = .ok (.iload_n 1, 1) := by decide +kernel
theorem d_W_shapeIn_24 : decode k_W_shapeIn 24 = .ok (.aaload, 1) := by decide +kernel
theorem d_W_shapeIn_25 : decode k_W_shapeIn 25 = .ok (.areturn, 1) := by decide +kernel
theorem d_W_feedFour_0 : decode k_W_feedFour 0 = .ok (.bipush 24, 2) := by decide +kernel
theorem d_W_feedFour_2 : decode k_W_feedFour 2 = .ok (.istore_n 2, 1) := by decide +kernel
theorem d_W_feedFour_3 : decode k_W_feedFour 3 = .ok (.iload_n 2, 1) := by decide +kernel
theorem d_W_feedFour_4 : decode k_W_feedFour 4 = .ok (.ifCond .lt 41, 3) := by decide +kernel
theorem d_W_feedFour_7 : decode k_W_feedFour 7 = .ok (.aload_n 0, 1) := by decide +kernel
theorem d_W_feedFour_8 : decode k_W_feedFour 8 = .ok (.getfield 50, 3) := by decide +kernel
theorem d_W_feedFour_11 : decode k_W_feedFour 11 = .ok (.ldc 27, 2) := by decide +kernel
theorem d_W_feedFour_13 : decode k_W_feedFour 13 = .ok (.if_icmp .ge 32, 3) := by decide +kernel
theorem d_W_feedFour_16 : decode k_W_feedFour 16 = .ok (.aload_n 0, 1) := by decide +kernel
theorem d_W_feedFour_17 : decode k_W_feedFour 17 = .ok (.getfield 28, 3) := by decide +kernel
theorem d_W_feedFour_20 : decode k_W_feedFour 20 = .ok (.aload_n 0, 1) := by decide +kernel
theorem d_W_feedFour_21 : decode k_W_feedFour 21 = .ok (.getfield 50, 3) := by decide +kernel
theorem d_W_feedFour_24 : decode k_W_feedFour 24 = .ok (.iload_n 1, 1) := by decide +kernel
theorem d_W_feedFour_25 : decode k_W_feedFour 25 = .ok (.iload_n 2, 1) := by decide +kernel
theorem d_W_feedFour_26 : decode k_W_feedFour 26 = .ok (.iushr, 1) := by decide +kernel
theorem d_W_feedFour_27 : decode k_W_feedFour 27 = .ok (.i2b, 1) := by decide +kernel
theorem d_W_feedFour_28 : decode k_W_feedFour 28 = .ok (.bastore, 1) := by decide +kernel
theorem d_W_feedFour_29 : decode k_W_feedFour 29 = .ok (.aload_n 0, 1) := by decide +kernel
theorem d_W_feedFour_30 : decode k_W_feedFour 30 = .ok (.dup, 1) := by decide +kernel
theorem d_W_feedFour_31 : decode k_W_feedFour 31 = .ok (.getfield 50, 3) := by decide +kernel
theorem d_W_feedFour_34 : decode k_W_feedFour 34 = .ok (.iconst 1, 1) := by decide +kernel
theorem d_W_feedFour_35 : decode k_W_feedFour 35 = .ok (.iadd, 1) := by decide +kernel
theorem d_W_feedFour_36 : decode k_W_feedFour 36 = .ok (.putfield 50, 3) := by decide +kernel
theorem d_W_feedFour_39 : decode k_W_feedFour 39 = .ok (.iinc 2 (-8), 3) := by decide +kernel
theorem d_W_feedFour_42 : decode k_W_feedFour 42 = .ok (.goto (-39), 3) := by decide +kernel
theorem d_W_feedFour_45 : decode k_W_feedFour 45 = .ok (.return_, 1) := by decide +kernel
theorem d_W_wordOf_0 : decode k_W_wordOf 0 = .ok (.iload_n 0, 1) := by decide +kernel
theorem d_W_wordOf_1 : decode k_W_wordOf 1 = .ok (.tableswitch 57 1 6 #[39, 42, 45, 48, 51, 54], 39) := by decide +kernel
theorem d_W_wordOf_40 : decode k_W_wordOf 40 = .ok (.ldc 158, 2) := by decide +kernel
theorem d_W_wordOf_42 : decode k_W_wordOf 42 = .ok (.areturn, 1) := by decide +kernel
theorem d_W_wordOf_43 : decode k_W_wordOf 43 = .ok (.ldc 160, 2) := by decide +kernel
theorem d_W_wordOf_45 : decode k_W_wordOf 45 = .ok (.areturn, 1) := by decide +kernel
theorem d_W_wordOf_46 : decode k_W_wordOf 46 = .ok (.ldc 162, 2) := by decide +kernel
theorem d_W_wordOf_48 : decode k_W_wordOf 48 = .ok (.areturn, 1) := by decide +kernel
theorem d_W_wordOf_49 : decode k_W_wordOf 49 = .ok (.ldc 164, 2) := by decide +kernel
theorem d_W_wordOf_51 : decode k_W_wordOf 51 = .ok (.areturn, 1) := by decide +kernel
theorem d_W_wordOf_52 : decode k_W_wordOf 52 = .ok (.ldc 166, 2) := by decide +kernel
theorem d_W_wordOf_54 : decode k_W_wordOf 54 = .ok (.areturn, 1) := by decide +kernel
theorem d_W_wordOf_55 : decode k_W_wordOf 55 = .ok (.ldc 168, 2) := by decide +kernel
theorem d_W_wordOf_57 : decode k_W_wordOf 57 = .ok (.areturn, 1) := by decide +kernel
theorem d_W_wordOf_58 : decode k_W_wordOf 58 = .ok (.ldc 170, 2) := by decide +kernel
theorem d_W_wordOf_60 : decode k_W_wordOf 60 = .ok (.areturn, 1) := by decide +kernel
theorem d_B_init_0 : decode k_B_init 0 = .ok (.aload_n 0, 1) := by decide +kernel
theorem d_B_init_1 : decode k_B_init 1 = .ok (.invokespecial 3, 3) := by decide +kernel
theorem d_B_init_4 : decode k_B_init 4 = .ok (.aload_n 0, 1) := by decide +kernel
theorem d_B_init_5 : decode k_B_init 5 = .ok (.bipush 54, 2) := by decide +kernel
theorem d_B_init_7 : decode k_B_init 7 = .ok (.newarray .int, 2) := by decide +kernel
theorem d_B_init_9 : decode k_B_init 9 = .ok (.putfield 9, 3) := by decide +kernel
theorem d_B_init_12 : decode k_B_init 12 = .ok (.aload_n 0, 1) := by decide +kernel
theorem d_B_init_13 : decode k_B_init 13 = .ok (.bipush 54, 2) := by decide +kernel
theorem d_B_init_15 : decode k_B_init 15 = .ok (.newarray .int, 2) := by decide +kernel
theorem d_B_init_17 : decode k_B_init 17 = .ok (.putfield 15, 3) := by decide +kernel
theorem d_B_init_20 : decode k_B_init 20 = .ok (.return_, 1) := by decide +kernel
theorem d_B_start_0 : decode k_B_start 0 = .ok (.aload_n 0, 1) := by decide +kernel
theorem d_B_start_1 : decode k_B_start 1 = .ok (.iconst 0, 1) := by decide +kernel
theorem d_B_start_2 : decode k_B_start 2 = .ok (.putfield 18, 3) := by decide +kernel
theorem d_B_start_5 : decode k_B_start 5 = .ok (.aload_n 0, 1) := by decide +kernel
theorem d_B_start_6 : decode k_B_start 6 = .ok (.getfield 9, 3) := by decide +kernel
theorem d_B_start_9 : decode k_B_start 9 = .ok (.iconst 0, 1) := by decide +kernel
theorem d_B_start_10 : decode k_B_start 10 = .ok (.iconst 0, 1) := by decide +kernel
theorem d_B_start_11 : decode k_B_start 11 = .ok (.iastore, 1) := by decide +kernel
theorem d_B_start_12 : decode k_B_start 12 = .ok (.aload_n 0, 1) := by decide +kernel
theorem d_B_start_13 : decode k_B_start 13 = .ok (.getfield 15, 3) := by decide +kernel
theorem d_B_start_16 : decode k_B_start 16 = .ok (.iconst 0, 1) := by decide +kernel
theorem d_B_start_17 : decode k_B_start 17 = .ok (.iload_n 1, 1) := by decide +kernel
theorem d_B_start_18 : decode k_B_start 18 = .ok (.iastore, 1) := by decide +kernel
theorem d_B_start_19 : decode k_B_start 19 = .ok (.return_, 1) := by decide +kernel
theorem d_B_open_0 : decode k_B_open 0 = .ok (.aload_n 0, 1) := by decide +kernel
theorem d_B_open_1 : decode k_B_open 1 = .ok (.getfield 18, 3) := by decide +kernel
theorem d_B_open_4 : decode k_B_open 4 = .ok (.bipush 53, 2) := by decide +kernel
theorem d_B_open_6 : decode k_B_open 6 = .ok (.if_icmp .ge 33, 3) := by decide +kernel
theorem d_B_open_9 : decode k_B_open 9 = .ok (.aload_n 0, 1) := by decide +kernel
theorem d_B_open_10 : decode k_B_open 10 = .ok (.dup, 1) := by decide +kernel
theorem d_B_open_11 : decode k_B_open 11 = .ok (.getfield 18, 3) := by decide +kernel
theorem d_B_open_14 : decode k_B_open 14 = .ok (.iconst 1, 1) := by decide +kernel
theorem d_B_open_15 : decode k_B_open 15 = .ok (.iadd, 1) := by decide +kernel
theorem d_B_open_16 : decode k_B_open 16 = .ok (.putfield 18, 3) := by decide +kernel
theorem d_B_open_19 : decode k_B_open 19 = .ok (.aload_n 0, 1) := by decide +kernel
theorem d_B_open_20 : decode k_B_open 20 = .ok (.getfield 9, 3) := by decide +kernel
theorem d_B_open_23 : decode k_B_open 23 = .ok (.aload_n 0, 1) := by decide +kernel
theorem d_B_open_24 : decode k_B_open 24 = .ok (.getfield 18, 3) := by decide +kernel
theorem d_B_open_27 : decode k_B_open 27 = .ok (.iload_n 1, 1) := by decide +kernel
theorem d_B_open_28 : decode k_B_open 28 = .ok (.iastore, 1) := by decide +kernel
theorem d_B_open_29 : decode k_B_open 29 = .ok (.aload_n 0, 1) := by decide +kernel
theorem d_B_open_30 : decode k_B_open 30 = .ok (.getfield 15, 3) := by decide +kernel
theorem d_B_open_33 : decode k_B_open 33 = .ok (.aload_n 0, 1) := by decide +kernel
theorem d_B_open_34 : decode k_B_open 34 = .ok (.getfield 18, 3) := by decide +kernel
theorem d_B_open_37 : decode k_B_open 37 = .ok (.iload_n 2, 1) := by decide +kernel
theorem d_B_open_38 : decode k_B_open 38 = .ok (.iastore, 1) := by decide +kernel
theorem d_B_open_39 : decode k_B_open 39 = .ok (.return_, 1) := by decide +kernel
theorem d_B_close_0 : decode k_B_close 0 = .ok (.aload_n 0, 1) := by decide +kernel
theorem d_B_close_1 : decode k_B_close 1 = .ok (.getfield 18, 3) := by decide +kernel
theorem d_B_close_4 : decode k_B_close 4 = .ok (.ifCond .le 13, 3) := by decide +kernel
theorem d_B_close_7 : decode k_B_close 7 = .ok (.aload_n 0, 1) := by decide +kernel
theorem d_B_close_8 : decode k_B_close 8 = .ok (.dup, 1) := by decide +kernel
theorem d_B_close_9 : decode k_B_close 9 = .ok (.getfield 18, 3) := by decide +kernel
theorem d_B_close_12 : decode k_B_close 12 = .ok (.iconst 1, 1) := by decide +kernel
theorem d_B_close_13 : decode k_B_close 13 = .ok (.isub, 1) := by decide +kernel
theorem d_B_close_14 : decode k_B_close 14 = .ok (.putfield 18, 3) := by decide +kernel
theorem d_B_close_17 : decode k_B_close 17 = .ok (.return_, 1) := by decide +kernel
theorem d_B_kind_0 : decode k_B_kind 0 = .ok (.aload_n 0, 1) := by decide +kernel
theorem d_B_kind_1 : decode k_B_kind 1 = .ok (.getfield 9, 3) := by decide +kernel
theorem d_B_kind_4 : decode k_B_kind 4 = .ok (.aload_n 0, 1) := by decide +kernel
theorem d_B_kind_5 : decode k_B_kind 5 = .ok (.getfield 18, 3) := by decide +kernel
theorem d_B_kind_8 : decode k_B_kind 8 = .ok (.iaload, 1) := by decide +kernel
theorem d_B_kind_9 : decode k_B_kind 9 = .ok (.ireturn, 1) := by decide +kernel
theorem d_B_number_0 : decode k_B_number 0 = .ok (.aload_n 0, 1) := by decide +kernel
theorem d_B_number_1 : decode k_B_number 1 = .ok (.getfield 15, 3) := by decide +kernel
theorem d_B_number_4 : decode k_B_number 4 = .ok (.aload_n 0, 1) := by decide +kernel
theorem d_B_number_5 : decode k_B_number 5 = .ok (.getfield 18, 3) := by decide +kernel
theorem d_B_number_8 : decode k_B_number 8 = .ok (.iaload, 1) := by decide +kernel
theorem d_B_number_9 : decode k_B_number 9 = .ok (.ireturn, 1) := by decide +kernel
theorem d_B_lessOne_0 : decode k_B_lessOne 0 = .ok (.aload_n 0, 1) := by decide +kernel
theorem d_B_lessOne_1 : decode k_B_lessOne 1 = .ok (.getfield 15, 3) := by decide +kernel
theorem d_B_lessOne_4 : decode k_B_lessOne 4 = .ok (.aload_n 0, 1) := by decide +kernel
theorem d_B_lessOne_5 : decode k_B_lessOne 5 = .ok (.getfield 18, 3) := by decide +kernel
theorem d_B_lessOne_8 : decode k_B_lessOne 8 = .ok (.dup2, 1) := by decide +kernel
theorem d_B_lessOne_9 : decode k_B_lessOne 9 = .ok (.iaload, 1) := by decide +kernel
theorem d_B_lessOne_10 : decode k_B_lessOne 10 = .ok (.iconst 1, 1) := by decide +kernel
theorem d_B_lessOne_11 : decode k_B_lessOne 11 = .ok (.isub, 1) := by decide +kernel
theorem d_B_lessOne_12 : decode k_B_lessOne 12 = .ok (.iastore, 1) := by decide +kernel
theorem d_B_lessOne_13 : decode k_B_lessOne 13 = .ok (.return_, 1) := by decide +kernel
theorem d_S_init_0 : decode k_S_init 0 = .ok (.aload_n 0, 1) := by decide +kernel
theorem d_S_init_1 : decode k_S_init 1 = .ok (.invokespecial 1, 3) := by decide +kernel
theorem d_S_init_4 : decode k_S_init 4 = .ok (.aload_n 0, 1) := by decide +kernel
theorem d_S_init_5 : decode k_S_init 5 = .ok (.iload_n 1, 1) := by decide +kernel
theorem d_S_init_6 : decode k_S_init 6 = .ok (.newarray .int, 2) := by decide +kernel
theorem d_S_init_8 : decode k_S_init 8 = .ok (.putfield 7, 3) := by decide +kernel
theorem d_S_init_11 : decode k_S_init 11 = .ok (.aload_n 0, 1) := by decide +kernel
theorem d_S_init_12 : decode k_S_init 12 = .ok (.iconst 2, 1) := by decide +kernel
theorem d_S_init_13 : decode k_S_init 13 = .ok (.iload_n 2, 1) := by decide +kernel
theorem d_S_init_14 : decode k_S_init 14 = .ok (.imul, 1) := by decide +kernel
theorem d_S_init_15 : decode k_S_init 15 = .ok (.newarray .int, 2) := by decide +kernel
theorem d_S_init_17 : decode k_S_init 17 = .ok (.putfield 13, 3) := by decide +kernel
theorem d_S_init_20 : decode k_S_init 20 = .ok (.return_, 1) := by decide +kernel
theorem d_S_clear_0 : decode k_S_clear 0 = .ok (.aload_n 0, 1) := by decide +kernel
theorem d_S_clear_1 : decode k_S_clear 1 = .ok (.iconst 0, 1) := by decide +kernel
theorem d_S_clear_2 : decode k_S_clear 2 = .ok (.putfield 16, 3) := by decide +kernel
theorem d_S_clear_5 : decode k_S_clear 5 = .ok (.aload_n 0, 1) := by decide +kernel
theorem d_S_clear_6 : decode k_S_clear 6 = .ok (.iconst 0, 1) := by decide +kernel
theorem d_S_clear_7 : decode k_S_clear 7 = .ok (.putfield 20, 3) := by decide +kernel
theorem d_S_clear_10 : decode k_S_clear 10 = .ok (.return_, 1) := by decide +kernel
theorem d_S_isNone_0 : decode k_S_isNone 0 = .ok (.aload_n 0, 1) := by decide +kernel
theorem d_S_isNone_1 : decode k_S_isNone 1 = .ok (.getfield 16, 3) := by decide +kernel
theorem d_S_isNone_4 : decode k_S_isNone 4 = .ok (.ifCond .ne 7, 3) := by decide +kernel
theorem d_S_isNone_7 : decode k_S_isNone 7 = .ok (.iconst 1, 1) := by decide +kernel
theorem d_S_isNone_8 : decode k_S_isNone 8 = .ok (.goto 4, 3) := by decide +kernel
theorem d_S_isNone_11 : decode k_S_isNone 11 = .ok (.iconst 0, 1) := by decide +kernel
theorem d_S_isNone_12 : decode k_S_isNone 12 = .ok (.ireturn, 1) := by decide +kernel
theorem d_S_hasRoomFor_0 : decode k_S_hasRoomFor 0 = .ok (.aload_n 0, 1) := by decide +kernel
theorem d_S_hasRoomFor_1 : decode k_S_hasRoomFor 1 = .ok (.getfield 16, 3) := by decide +kernel
theorem d_S_hasRoomFor_4 : decode k_S_hasRoomFor 4 = .ok (.aload_n 0, 1) := by decide +kernel
theorem d_S_hasRoomFor_5 : decode k_S_hasRoomFor 5 = .ok (.getfield 7, 3) := by decide +kernel
theorem d_S_hasRoomFor_8 : decode k_S_hasRoomFor 8 = .ok (.arraylength, 1) := by decide +kernel
theorem d_S_hasRoomFor_9 : decode k_S_hasRoomFor 9 = .ok (.iload_n 1, 1) := by decide +kernel
theorem d_S_hasRoomFor_10 : decode k_S_hasRoomFor 10 = .ok (.isub, 1) := by decide +kernel
theorem d_S_hasRoomFor_11 : decode k_S_hasRoomFor 11 = .ok (.if_icmp .gt 7, 3) := by decide +kernel
theorem d_S_hasRoomFor_14 : decode k_S_hasRoomFor 14 = .ok (.iconst 1, 1) := by decide +kernel
theorem d_S_hasRoomFor_15 : decode k_S_hasRoomFor 15 = .ok (.goto 4, 3) := by decide +kernel
theorem d_S_hasRoomFor_18 : decode k_S_hasRoomFor 18 = .ok (.iconst 0, 1) := by decide +kernel
theorem d_S_hasRoomFor_19 : decode k_S_hasRoomFor 19 = .ok (.ireturn, 1) := by decide +kernel
theorem d_S_hasRoomForPoint_0 : decode k_S_hasRoomForPoint 0 = .ok (.iconst 2, 1) := by decide +kernel
theorem d_S_hasRoomForPoint_1 : decode k_S_hasRoomForPoint 1 = .ok (.aload_n 0, 1) := by decide +kernel
theorem d_S_hasRoomForPoint_2 : decode k_S_hasRoomForPoint 2 = .ok (.getfield 20, 3) := by decide +kernel
theorem d_S_hasRoomForPoint_5 : decode k_S_hasRoomForPoint 5 = .ok (.imul, 1) := by decide +kernel
theorem d_S_hasRoomForPoint_6 : decode k_S_hasRoomForPoint 6 = .ok (.iconst 1, 1) := by decide +kernel
theorem d_S_hasRoomForPoint_7 : decode k_S_hasRoomForPoint 7 = .ok (.iadd, 1) := by decide +kernel
theorem d_S_hasRoomForPoint_8 : decode k_S_hasRoomForPoint 8 = .ok (.aload_n 0, 1) := by decide +kernel
theorem d_S_hasRoomForPoint_9 : decode k_S_hasRoomForPoint 9 = .ok (.getfield 13, 3) := by decide +kernel
theorem d_S_hasRoomForPoint_12 : decode k_S_hasRoomForPoint 12 = .ok (.arraylength, 1) := by decide +kernel
theorem d_S_hasRoomForPoint_13 : decode k_S_hasRoomForPoint 13 = .ok (.if_icmp .ge 7, 3) := by decide +kernel
theorem d_S_hasRoomForPoint_16 : decode k_S_hasRoomForPoint 16 = .ok (.iconst 1, 1) := by decide +kernel
theorem d_S_hasRoomForPoint_17 : decode k_S_hasRoomForPoint 17 = .ok (.goto 4, 3) := by decide +kernel
theorem d_S_hasRoomForPoint_20 : decode k_S_hasRoomForPoint 20 = .ok (.iconst 0, 1) := by decide +kernel
theorem d_S_hasRoomForPoint_21 : decode k_S_hasRoomForPoint 21 = .ok (.ireturn, 1) := by decide +kernel
theorem d_S_addNumber_0 : decode k_S_addNumber 0 = .ok (.aload_n 0, 1) := by decide +kernel
theorem d_S_addNumber_1 : decode k_S_addNumber 1 = .ok (.getfield 16, 3) := by decide +kernel
theorem d_S_addNumber_4 : decode k_S_addNumber 4 = .ok (.aload_n 0, 1) := by decide +kernel
theorem d_S_addNumber_5 : decode k_S_addNumber 5 = .ok (.getfield 7, 3) := by decide +kernel
theorem d_S_addNumber_8 : decode k_S_addNumber 8 = .ok (.arraylength, 1) := by decide +kernel
theorem d_S_addNumber_9 : decode k_S_addNumber 9 = .ok (.if_icmp .ge 23, 3) := by decide +kernel
theorem d_S_addNumber_12 : decode k_S_addNumber 12 = .ok (.aload_n 0, 1) := by decide +kernel
theorem d_S_addNumber_13 : decode k_S_addNumber 13 = .ok (.getfield 7, 3) := by decide +kernel
theorem d_S_addNumber_16 : decode k_S_addNumber 16 = .ok (.aload_n 0, 1) := by decide +kernel
theorem d_S_addNumber_17 : decode k_S_addNumber 17 = .ok (.getfield 16, 3) := by decide +kernel
theorem d_S_addNumber_20 : decode k_S_addNumber 20 = .ok (.iload_n 1, 1) := by decide +kernel
theorem d_S_addNumber_21 : decode k_S_addNumber 21 = .ok (.iastore, 1) := by decide +kernel
theorem d_S_addNumber_22 : decode k_S_addNumber 22 = .ok (.aload_n 0, 1) := by decide +kernel
theorem d_S_addNumber_23 : decode k_S_addNumber 23 = .ok (.dup, 1) := by decide +kernel
theorem d_S_addNumber_24 : decode k_S_addNumber 24 = .ok (.getfield 16, 3) := by decide +kernel
theorem d_S_addNumber_27 : decode k_S_addNumber 27 = .ok (.iconst 1, 1) := by decide +kernel
theorem d_S_addNumber_28 : decode k_S_addNumber 28 = .ok (.iadd, 1) := by decide +kernel
theorem d_S_addNumber_29 : decode k_S_addNumber 29 = .ok (.putfield 16, 3) := by decide +kernel
theorem d_S_addNumber_32 : decode k_S_addNumber 32 = .ok (.return_, 1) := by decide +kernel
theorem d_S_addPoint_0 : decode k_S_addPoint 0 = .ok (.aload_n 0, 1) := by decide +kernel
theorem d_S_addPoint_1 : decode k_S_addPoint 1 = .ok (.invokevirtual 23, 3) := by decide +kernel
theorem d_S_addPoint_4 : decode k_S_addPoint 4 = .ok (.ifCond .eq 39, 3) := by decide +kernel
theorem d_S_addPoint_7 : decode k_S_addPoint 7 = .ok (.aload_n 0, 1) := by decide +kernel
theorem d_S_addPoint_8 : decode k_S_addPoint 8 = .ok (.getfield 13, 3) := by decide +kernel
theorem d_S_addPoint_11 : decode k_S_addPoint 11 = .ok (.iconst 2, 1) := by decide +kernel
theorem d_S_addPoint_12 : decode k_S_addPoint 12 = .ok (.aload_n 0, 1) := by decide +kernel
theorem d_S_addPoint_13 : decode k_S_addPoint 13 = .ok (.getfield 20, 3) := by decide +kernel
theorem d_S_addPoint_16 : decode k_S_addPoint 16 = .ok (.imul, 1) := by decide +kernel
theorem d_S_addPoint_17 : decode k_S_addPoint 17 = .ok (.iload_n 1, 1) := by decide +kernel
theorem d_S_addPoint_18 : decode k_S_addPoint 18 = .ok (.iastore, 1) := by decide +kernel
theorem d_S_addPoint_19 : decode k_S_addPoint 19 = .ok (.aload_n 0, 1) := by decide +kernel
theorem d_S_addPoint_20 : decode k_S_addPoint 20 = .ok (.getfield 13, 3) := by decide +kernel
theorem d_S_addPoint_23 : decode k_S_addPoint 23 = .ok (.iconst 2, 1) := by decide +kernel
theorem d_S_addPoint_24 : decode k_S_addPoint 24 = .ok (.aload_n 0, 1) := by decide +kernel
theorem d_S_addPoint_25 : decode k_S_addPoint 25 = .ok (.getfield 20, 3) := by decide +kernel
theorem d_S_addPoint_28 : decode k_S_addPoint 28 = .ok (.imul, 1) := by decide +kernel
theorem d_S_addPoint_29 : decode k_S_addPoint 29 = .ok (.iconst 1, 1) := by decide +kernel
theorem d_S_addPoint_30 : decode k_S_addPoint 30 = .ok (.iadd, 1) := by decide +kernel
theorem d_S_addPoint_31 : decode k_S_addPoint 31 = .ok (.iload_n 2, 1) := by decide +kernel
theorem d_S_addPoint_32 : decode k_S_addPoint 32 = .ok (.iastore, 1) := by decide +kernel
theorem d_S_addPoint_33 : decode k_S_addPoint 33 = .ok (.aload_n 0, 1) := by decide +kernel
theorem d_S_addPoint_34 : decode k_S_addPoint 34 = .ok (.dup, 1) := by decide +kernel
theorem d_S_addPoint_35 : decode k_S_addPoint 35 = .ok (.getfield 20, 3) := by decide +kernel
theorem d_S_addPoint_38 : decode k_S_addPoint 38 = .ok (.iconst 1, 1) := by decide +kernel
theorem d_S_addPoint_39 : decode k_S_addPoint 39 = .ok (.iadd, 1) := by decide +kernel
theorem d_S_addPoint_40 : decode k_S_addPoint 40 = .ok (.putfield 20, 3) := by decide +kernel
theorem d_S_addPoint_43 : decode k_S_addPoint 43 = .ok (.return_, 1) := by decide +kernel
theorem d_S_addOneAt_0 : decode k_S_addOneAt 0 = .ok (.iload_n 1, 1) := by decide +kernel
theorem d_S_addOneAt_1 : decode k_S_addOneAt 1 = .ok (.ifCond .lt 21, 3) := by decide +kernel
theorem d_S_addOneAt_4 : decode k_S_addOneAt 4 = .ok (.iload_n 1, 1) := by decide +kernel
theorem d_S_addOneAt_5 : decode k_S_addOneAt 5 = .ok (.aload_n 0, 1) := by decide +kernel
theorem d_S_addOneAt_6 : decode k_S_addOneAt 6 = .ok (.getfield 16, 3) := by decide +kernel
theorem d_S_addOneAt_9 : decode k_S_addOneAt 9 = .ok (.if_icmp .ge 13, 3) := by decide +kernel
theorem d_S_addOneAt_12 : decode k_S_addOneAt 12 = .ok (.aload_n 0, 1) := by decide +kernel
theorem d_S_addOneAt_13 : decode k_S_addOneAt 13 = .ok (.getfield 7, 3) := by decide +kernel
theorem d_S_addOneAt_16 : decode k_S_addOneAt 16 = .ok (.iload_n 1, 1) := by decide +kernel
theorem d_S_addOneAt_17 : decode k_S_addOneAt 17 = .ok (.dup2, 1) := by decide +kernel
theorem d_S_addOneAt_18 : decode k_S_addOneAt 18 = .ok (.iaload, 1) := by decide +kernel
theorem d_S_addOneAt_19 : decode k_S_addOneAt 19 = .ok (.iconst 1, 1) := by decide +kernel
theorem d_S_addOneAt_20 : decode k_S_addOneAt 20 = .ok (.iadd, 1) := by decide +kernel
theorem d_S_addOneAt_21 : decode k_S_addOneAt 21 = .ok (.iastore, 1) := by decide +kernel
theorem d_S_addOneAt_22 : decode k_S_addOneAt 22 = .ok (.return_, 1) := by decide +kernel
theorem d_S_numberAt_0 : decode k_S_numberAt 0 = .ok (.iload_n 1, 1) := by decide +kernel
theorem d_S_numberAt_1 : decode k_S_numberAt 1 = .ok (.ifCond .lt 20, 3) := by decide +kernel
theorem d_S_numberAt_4 : decode k_S_numberAt 4 = .ok (.iload_n 1, 1) := by decide +kernel
theorem d_S_numberAt_5 : decode k_S_numberAt 5 = .ok (.aload_n 0, 1) := by decide +kernel
theorem d_S_numberAt_6 : decode k_S_numberAt 6 = .ok (.getfield 16, 3) := by decide +kernel
theorem d_S_numberAt_9 : decode k_S_numberAt 9 = .ok (.if_icmp .ge 12, 3) := by decide +kernel
theorem d_S_numberAt_12 : decode k_S_numberAt 12 = .ok (.aload_n 0, 1) := by decide +kernel
theorem d_S_numberAt_13 : decode k_S_numberAt 13 = .ok (.getfield 7, 3) := by decide +kernel
theorem d_S_numberAt_16 : decode k_S_numberAt 16 = .ok (.iload_n 1, 1) := by decide +kernel
theorem d_S_numberAt_17 : decode k_S_numberAt 17 = .ok (.iaload, 1) := by decide +kernel
theorem d_S_numberAt_18 : decode k_S_numberAt 18 = .ok (.goto 4, 3) := by decide +kernel
theorem d_S_numberAt_21 : decode k_S_numberAt 21 = .ok (.iconst 0, 1) := by decide +kernel
theorem d_S_numberAt_22 : decode k_S_numberAt 22 = .ok (.ireturn, 1) := by decide +kernel
theorem d_S_ordinateAt_0 : decode k_S_ordinateAt 0 = .ok (.iload_n 1, 1) := by decide +kernel
theorem d_S_ordinateAt_1 : decode k_S_ordinateAt 1 = .ok (.ifCond .lt 26, 3) := by decide +kernel
theorem d_S_ordinateAt_4 : decode k_S_ordinateAt 4 = .ok (.iload_n 1, 1) := by decide +kernel
theorem d_S_ordinateAt_5 : decode k_S_ordinateAt 5 = .ok (.aload_n 0, 1) := by decide +kernel
theorem d_S_ordinateAt_6 : decode k_S_ordinateAt 6 = .ok (.getfield 20, 3) := by decide +kernel
theorem d_S_ordinateAt_9 : decode k_S_ordinateAt 9 = .ok (.if_icmp .ge 18, 3) := by decide +kernel
theorem d_S_ordinateAt_12 : decode k_S_ordinateAt 12 = .ok (.aload_n 0, 1) := by decide +kernel
theorem d_S_ordinateAt_13 : decode k_S_ordinateAt 13 = .ok (.getfield 13, 3) := by decide +kernel
theorem d_S_ordinateAt_16 : decode k_S_ordinateAt 16 = .ok (.iconst 2, 1) := by decide +kernel
theorem d_S_ordinateAt_17 : decode k_S_ordinateAt 17 = .ok (.iload_n 1, 1) := by decide +kernel
theorem d_S_ordinateAt_18 : decode k_S_ordinateAt 18 = .ok (.imul, 1) := by decide +kernel
theorem d_S_ordinateAt_19 : decode k_S_ordinateAt 19 = .ok (.iload_n 2, 1) := by decide +kernel
theorem d_S_ordinateAt_20 : decode k_S_ordinateAt 20 = .ok (.iconst 1, 1) := by decide +kernel
theorem d_S_ordinateAt_21 : decode k_S_ordinateAt 21 = .ok (.iand, 1) := by decide +kernel
theorem d_S_ordinateAt_22 : decode k_S_ordinateAt 22 = .ok (.iadd, 1) := by decide +kernel
theorem d_S_ordinateAt_23 : decode k_S_ordinateAt 23 = .ok (.iaload, 1) := by decide +kernel
theorem d_S_ordinateAt_24 : decode k_S_ordinateAt 24 = .ok (.goto 4, 3) := by decide +kernel
theorem d_S_ordinateAt_27 : decode k_S_ordinateAt 27 = .ok (.iconst 0, 1) := by decide +kernel
theorem d_S_ordinateAt_28 : decode k_S_ordinateAt 28 = .ok (.ireturn, 1) := by decide +kernel
theorem d_S_takeFrom_0 : decode k_S_takeFrom 0 = .ok (.aload_n 0, 1) := by decide +kernel
theorem d_S_takeFrom_1 : decode k_S_takeFrom 1 = .ok (.invokevirtual 27, 3) := by decide +kernel
theorem d_S_takeFrom_4 : decode k_S_takeFrom 4 = .ok (.iconst 0, 1) := by decide +kernel
theorem d_S_takeFrom_5 : decode k_S_takeFrom 5 = .ok (.istore_n 2, 1) := by decide +kernel
theorem d_S_takeFrom_6 : decode k_S_takeFrom 6 = .ok (.iload_n 2, 1) := by decide +kernel
theorem d_S_takeFrom_7 : decode k_S_takeFrom 7 = .ok (.aload_n 1, 1) := by decide +kernel
theorem d_S_takeFrom_8 : decode k_S_takeFrom 8 = .ok (.getfield 16, 3) := by decide +kernel
theorem d_S_takeFrom_11 : decode k_S_takeFrom 11 = .ok (.if_icmp .ge 19, 3) := by decide +kernel
theorem d_S_takeFrom_14 : decode k_S_takeFrom 14 = .ok (.aload_n 0, 1) := by decide +kernel
theorem d_S_takeFrom_15 : decode k_S_takeFrom 15 = .ok (.aload_n 1, 1) := by decide +kernel
theorem d_S_takeFrom_16 : decode k_S_takeFrom 16 = .ok (.getfield 7, 3) := by decide +kernel
theorem d_S_takeFrom_19 : decode k_S_takeFrom 19 = .ok (.iload_n 2, 1) := by decide +kernel
theorem d_S_takeFrom_20 : decode k_S_takeFrom 20 = .ok (.iaload, 1) := by decide +kernel
theorem d_S_takeFrom_21 : decode k_S_takeFrom 21 = .ok (.invokevirtual 30, 3) := by decide +kernel
theorem d_S_takeFrom_24 : decode k_S_takeFrom 24 = .ok (.iinc 2 1, 3) := by decide +kernel
theorem d_S_takeFrom_27 : decode k_S_takeFrom 27 = .ok (.goto (-21), 3) := by decide +kernel
theorem d_S_takeFrom_30 : decode k_S_takeFrom 30 = .ok (.iconst 0, 1) := by decide +kernel
theorem d_S_takeFrom_31 : decode k_S_takeFrom 31 = .ok (.istore_n 2, 1) := by decide +kernel
theorem d_S_takeFrom_32 : decode k_S_takeFrom 32 = .ok (.iload_n 2, 1) := by decide +kernel
theorem d_S_takeFrom_33 : decode k_S_takeFrom 33 = .ok (.aload_n 1, 1) := by decide +kernel
theorem d_S_takeFrom_34 : decode k_S_takeFrom 34 = .ok (.getfield 20, 3) := by decide +kernel
theorem d_S_takeFrom_37 : decode k_S_takeFrom 37 = .ok (.if_icmp .ge 31, 3) := by decide +kernel
theorem d_S_takeFrom_40 : decode k_S_takeFrom 40 = .ok (.aload_n 0, 1) := by decide +kernel
theorem d_S_takeFrom_41 : decode k_S_takeFrom 41 = .ok (.aload_n 1, 1) := by decide +kernel
theorem d_S_takeFrom_42 : decode k_S_takeFrom 42 = .ok (.getfield 13, 3) := by decide +kernel
theorem d_S_takeFrom_45 : decode k_S_takeFrom 45 = .ok (.iconst 2, 1) := by decide +kernel
theorem d_S_takeFrom_46 : decode k_S_takeFrom 46 = .ok (.iload_n 2, 1) := by decide +kernel
theorem d_S_takeFrom_47 : decode k_S_takeFrom 47 = .ok (.imul, 1) := by decide +kernel
theorem d_S_takeFrom_48 : decode k_S_takeFrom 48 = .ok (.iaload, 1) := by decide +kernel
theorem d_S_takeFrom_49 : decode k_S_takeFrom 49 = .ok (.aload_n 1, 1) := by decide +kernel
theorem d_S_takeFrom_50 : decode k_S_takeFrom 50 = .ok (.getfield 13, 3) := by decide +kernel
theorem d_S_takeFrom_53 : decode k_S_takeFrom 53 = .ok (.iconst 2, 1) := by decide +kernel
theorem d_S_takeFrom_54 : decode k_S_takeFrom 54 = .ok (.iload_n 2, 1) := by decide +kernel
theorem d_S_takeFrom_55 : decode k_S_takeFrom 55 = .ok (.imul, 1) := by decide +kernel
theorem d_S_takeFrom_56 : decode k_S_takeFrom 56 = .ok (.iconst 1, 1) := by decide +kernel
theorem d_S_takeFrom_57 : decode k_S_takeFrom 57 = .ok (.iadd, 1) := by decide +kernel
theorem d_S_takeFrom_58 : decode k_S_takeFrom 58 = .ok (.iaload, 1) := by decide +kernel
theorem d_S_takeFrom_59 : decode k_S_takeFrom 59 = .ok (.invokevirtual 34, 3) := by decide +kernel
theorem d_S_takeFrom_62 : decode k_S_takeFrom 62 = .ok (.iinc 2 1, 3) := by decide +kernel
theorem d_S_takeFrom_65 : decode k_S_takeFrom 65 = .ok (.goto (-33), 3) := by decide +kernel
theorem d_S_takeFrom_68 : decode k_S_takeFrom 68 = .ok (.return_, 1) := by decide +kernel
theorem d_S_isLike_0 : decode k_S_isLike 0 = .ok (.aload_n 0, 1) := by decide +kernel
theorem d_S_isLike_1 : decode k_S_isLike 1 = .ok (.getfield 16, 3) := by decide +kernel
theorem d_S_isLike_4 : decode k_S_isLike 4 = .ok (.aload_n 1, 1) := by decide +kernel
theorem d_S_isLike_5 : decode k_S_isLike 5 = .ok (.getfield 16, 3) := by decide +kernel
theorem d_S_isLike_8 : decode k_S_isLike 8 = .ok (.if_icmp .ne 14, 3) := by decide +kernel
theorem d_S_isLike_11 : decode k_S_isLike 11 = .ok (.aload_n 0, 1) := by decide +kernel
theorem d_S_isLike_12 : decode k_S_isLike 12 = .ok (.getfield 20, 3) := by decide +kernel
theorem d_S_isLike_15 : decode k_S_isLike 15 = .ok (.aload_n 1, 1) := by decide +kernel
theorem d_S_isLike_16 : decode k_S_isLike 16 = .ok (.getfield 20, 3) := by decide +kernel
theorem d_S_isLike_19 : decode k_S_isLike 19 = .ok (.if_icmp .eq 5, 3) := by decide +kernel
theorem d_S_isLike_22 : decode k_S_isLike 22 = .ok (.iconst 0, 1) := by decide +kernel
theorem d_S_isLike_23 : decode k_S_isLike 23 = .ok (.ireturn, 1) := by decide +kernel
theorem d_S_isLike_24 : decode k_S_isLike 24 = .ok (.iconst 0, 1) := by decide +kernel
theorem d_S_isLike_25 : decode k_S_isLike 25 = .ok (.istore_n 2, 1) := by decide +kernel
theorem d_S_isLike_26 : decode k_S_isLike 26 = .ok (.iload_n 2, 1) := by decide +kernel
theorem d_S_isLike_27 : decode k_S_isLike 27 = .ok (.aload_n 0, 1) := by decide +kernel
theorem d_S_isLike_28 : decode k_S_isLike 28 = .ok (.getfield 16, 3) := by decide +kernel
theorem d_S_isLike_31 : decode k_S_isLike 31 = .ok (.if_icmp .ge 26, 3) := by decide +kernel
theorem d_S_isLike_34 : decode k_S_isLike 34 = .ok (.aload_n 0, 1) := by decide +kernel
theorem d_S_isLike_35 : decode k_S_isLike 35 = .ok (.getfield 7, 3) := by decide +kernel
theorem d_S_isLike_38 : decode k_S_isLike 38 = .ok (.iload_n 2, 1) := by decide +kernel
theorem d_S_isLike_39 : decode k_S_isLike 39 = .ok (.iaload, 1) := by decide +kernel
theorem d_S_isLike_40 : decode k_S_isLike 40 = .ok (.aload_n 1, 1) := by decide +kernel
theorem d_S_isLike_41 : decode k_S_isLike 41 = .ok (.getfield 7, 3) := by decide +kernel
theorem d_S_isLike_44 : decode k_S_isLike 44 = .ok (.iload_n 2, 1) := by decide +kernel
theorem d_S_isLike_45 : decode k_S_isLike 45 = .ok (.iaload, 1) := by decide +kernel
theorem d_S_isLike_46 : decode k_S_isLike 46 = .ok (.if_icmp .eq 5, 3) := by decide +kernel
theorem d_S_isLike_49 : decode k_S_isLike 49 = .ok (.iconst 0, 1) := by decide +kernel
theorem d_S_isLike_50 : decode k_S_isLike 50 = .ok (.ireturn, 1) := by decide +kernel
theorem d_S_isLike_51 : decode k_S_isLike 51 = .ok (.iinc 2 1, 3) := by decide +kernel
theorem d_S_isLike_54 : decode k_S_isLike 54 = .ok (.goto (-28), 3) := by decide +kernel
theorem d_S_isLike_57 : decode k_S_isLike 57 = .ok (.iconst 0, 1) := by decide +kernel
theorem d_S_isLike_58 : decode k_S_isLike 58 = .ok (.istore_n 2, 1) := by decide +kernel
theorem d_S_isLike_59 : decode k_S_isLike 59 = .ok (.iload_n 2, 1) := by decide +kernel
theorem d_S_isLike_60 : decode k_S_isLike 60 = .ok (.iconst 2, 1) := by decide +kernel
theorem d_S_isLike_61 : decode k_S_isLike 61 = .ok (.aload_n 0, 1) := by decide +kernel
theorem d_S_isLike_62 : decode k_S_isLike 62 = .ok (.getfield 20, 3) := by decide +kernel
theorem d_S_isLike_65 : decode k_S_isLike 65 = .ok (.imul, 1) := by decide +kernel
theorem d_S_isLike_66 : decode k_S_isLike 66 = .ok (.if_icmp .ge 26, 3) := by decide +kernel
theorem d_S_isLike_69 : decode k_S_isLike 69 = .ok (.aload_n 0, 1) := by decide +kernel
theorem d_S_isLike_70 : decode k_S_isLike 70 = .ok (.getfield 13, 3) := by decide +kernel
theorem d_S_isLike_73 : decode k_S_isLike 73 = .ok (.iload_n 2, 1) := by decide +kernel
theorem d_S_isLike_74 : decode k_S_isLike 74 = .ok (.iaload, 1) := by decide +kernel
theorem d_S_isLike_75 : decode k_S_isLike 75 = .ok (.aload_n 1, 1) := by decide +kernel
theorem d_S_isLike_76 : decode k_S_isLike 76 = .ok (.getfield 13, 3) := by decide +kernel
theorem d_S_isLike_79 : decode k_S_isLike 79 = .ok (.iload_n 2, 1) := by decide +kernel
theorem d_S_isLike_80 : decode k_S_isLike 80 = .ok (.iaload, 1) := by decide +kernel
theorem d_S_isLike_81 : decode k_S_isLike 81 = .ok (.if_icmp .eq 5, 3) := by decide +kernel
theorem d_S_isLike_84 : decode k_S_isLike 84 = .ok (.iconst 0, 1) := by decide +kernel
theorem d_S_isLike_85 : decode k_S_isLike 85 = .ok (.ireturn, 1) := by decide +kernel
theorem d_S_isLike_86 : decode k_S_isLike 86 = .ok (.iinc 2 1, 3) := by decide +kernel
theorem d_S_isLike_89 : decode k_S_isLike 89 = .ok (.goto (-30), 3) := by decide +kernel
theorem d_S_isLike_92 : decode k_S_isLike 92 = .ok (.iconst 1, 1) := by decide +kernel
theorem d_S_isLike_93 : decode k_S_isLike 93 = .ok (.ireturn, 1) := by decide +kernel
theorem d_JMath_max_0 : decode k_JMath_max 0 = .ok (.iload_n 0, 1) := by decide +kernel
theorem d_JMath_max_1 : decode k_JMath_max 1 = .ok (.iload_n 1, 1) := by decide +kernel
theorem d_JMath_max_2 : decode k_JMath_max 2 = .ok (.if_icmp .lt 7, 3) := by decide +kernel
theorem d_JMath_max_5 : decode k_JMath_max 5 = .ok (.iload_n 0, 1) := by decide +kernel
theorem d_JMath_max_6 : decode k_JMath_max 6 = .ok (.goto 4, 3) := by decide +kernel
theorem d_JMath_max_9 : decode k_JMath_max 9 = .ok (.iload_n 1, 1) := by decide +kernel
theorem d_JMath_max_10 : decode k_JMath_max 10 = .ok (.ireturn, 1) := by decide +kernel
theorem d_JMath_min_0 : decode k_JMath_min 0 = .ok (.iload_n 0, 1) := by decide +kernel
theorem d_JMath_min_1 : decode k_JMath_min 1 = .ok (.iload_n 1, 1) := by decide +kernel
theorem d_JMath_min_2 : decode k_JMath_min 2 = .ok (.if_icmp .gt 7, 3) := by decide +kernel
theorem d_JMath_min_5 : decode k_JMath_min 5 = .ok (.iload_n 0, 1) := by decide +kernel
theorem d_JMath_min_6 : decode k_JMath_min 6 = .ok (.goto 4, 3) := by decide +kernel
theorem d_JMath_min_9 : decode k_JMath_min 9 = .ok (.iload_n 1, 1) := by decide +kernel
theorem d_JMath_min_10 : decode k_JMath_min 10 = .ok (.ireturn, 1) := by decide +kernel
end
section
theorem d_R_init_0 : decode k_R_init 0 = .ok (.aload_n 0, 1) := by decide +kernel
theorem d_R_init_1 : decode k_R_init 1 = .ok (.invokespecial 3, 3) := by decide +kernel
theorem d_R_init_4 : decode k_R_init 4 = .ok (.aload_n 0, 1) := by decide +kernel
theorem d_R_init_5 : decode k_R_init 5 = .ok (.new 9, 3) := by decide +kernel
theorem d_R_init_8 : decode k_R_init 8 = .ok (.dup, 1) := by decide +kernel
theorem d_R_init_9 : decode k_R_init 9 = .ok (.invokespecial 11, 3) := by decide +kernel
theorem d_R_init_12 : decode k_R_init 12 = .ok (.putfield 12, 3) := by decide +kernel
theorem d_R_init_15 : decode k_R_init 15 = .ok (.aload_n 0, 1) := by decide +kernel
theorem d_R_init_16 : decode k_R_init 16 = .ok (.aload_n 1, 1) := by decide +kernel
theorem d_R_init_17 : decode k_R_init 17 = .ok (.putfield 18, 3) := by decide +kernel
theorem d_R_init_20 : decode k_R_init 20 = .ok (.aload_n 0, 1) := by decide +kernel
theorem d_R_init_21 : decode k_R_init 21 = .ok (.iload_n 2, 1) := by decide +kernel
theorem d_R_init_22 : decode k_R_init 22 = .ok (.putfield 22, 3) := by decide +kernel
theorem d_R_init_25 : decode k_R_init 25 = .ok (.aload_n 0, 1) := by decide +kernel
theorem d_R_init_26 : decode k_R_init 26 = .ok (.aload_n 3, 1) := by decide +kernel
theorem d_R_init_27 : decode k_R_init 27 = .ok (.putfield 26, 3) := by decide +kernel
theorem d_R_init_30 : decode k_R_init 30 = .ok (.return_, 1) := by decide +kernel
theorem d_R_readText_0 : decode k_R_readText 0 = .ok (.aload_n 0, 1) := by decide +kernel
theorem d_R_readText_1 : decode k_R_readText 1 = .ok (.iload_n 1, 1) := by decide +kernel
theorem d_R_readText_2 : decode k_R_readText 2 = .ok (.aload_n 0, 1) := by decide +kernel
theorem d_R_readText_3 : decode k_R_readText 3 = .ok (.getfield 18, 3) := by decide +kernel
theorem d_R_readText_6 : decode k_R_readText 6 = .ok (.arraylength, 1) := by decide +kernel
theorem d_R_readText_7 : decode k_R_readText 7 = .ok (.invokestatic 30, 3) := by decide +kernel
theorem d_R_readText_10 : decode k_R_readText 10 = .ok (.putfield 36, 3) := by decide +kernel
theorem d_R_readText_13 : decode k_R_readText 13 = .ok (.aload_n 0, 1) := by decide +kernel
theorem d_R_readText_14 : decode k_R_readText 14 = .ok (.iconst 0, 1) := by decide +kernel
theorem d_R_readText_15 : decode k_R_readText 15 = .ok (.putfield 39, 3) := by decide +kernel
theorem d_R_readText_18 : decode k_R_readText 18 = .ok (.aload_n 0, 1) := by decide +kernel
theorem d_R_readText_19 : decode k_R_readText 19 = .ok (.iconst 0, 1) := by decide +kernel
theorem d_R_readText_20 : decode k_R_readText 20 = .ok (.putfield 42, 3) := by decide +kernel
theorem d_R_readText_23 : decode k_R_readText 23 = .ok (.aload_n 0, 1) := by decide +kernel
theorem d_R_readText_24 : decode k_R_readText 24 = .ok (.iconst 0, 1) := by decide +kernel
theorem d_R_readText_25 : decode k_R_readText 25 = .ok (.putfield 45, 3) := by decide +kernel
theorem d_R_readText_28 : decode k_R_readText 28 = .ok (.aload_n 0, 1) := by decide +kernel
theorem d_R_readText_29 : decode k_R_readText 29 = .ok (.getfield 26, 3) := by decide +kernel
theorem d_R_readText_32 : decode k_R_readText 32 = .ok (.invokevirtual 48, 3) := by decide +kernel
theorem d_R_readText_35 : decode k_R_readText 35 = .ok (.aload_n 0, 1) := by decide +kernel
theorem d_R_readText_36 : decode k_R_readText 36 = .ok (.getfield 12, 3) := by decide +kernel
theorem d_R_readText_39 : decode k_R_readText 39 = .ok (.iconst (-1), 1) := by decide +kernel
theorem d_R_readText_40 : decode k_R_readText 40 = .ok (.invokevirtual 53, 3) := by decide +kernel
theorem d_R_readText_43 : decode k_R_readText 43 = .ok (.iconst 1, 1) := by decide +kernel
theorem d_R_readText_44 : decode k_R_readText 44 = .ok (.istore_n 2, 1) := by decide +kernel
theorem d_R_readText_45 : decode k_R_readText 45 = .ok (.iconst 0, 1) := by decide +kernel
theorem d_R_readText_46 : decode k_R_readText 46 = .ok (.istore_n 3, 1) := by decide +kernel
theorem d_R_readText_47 : decode k_R_readText 47 = .ok (.iload_n 2, 1) := by decide +kernel
theorem d_R_readText_48 : decode k_R_readText 48 = .ok (.ifCond .eq 37, 3) := by decide +kernel
theorem d_R_readText_51 : decode k_R_readText 51 = .ok (.iload_n 3, 1) := by decide +kernel
theorem d_R_readText_52 : decode k_R_readText 52 = .ok (.aload_n 0, 1) := by decide +kernel
theorem d_R_readText_53 : decode k_R_readText 53 = .ok (.getfield 36, 3) := by decide +kernel
theorem d_R_readText_56 : decode k_R_readText 56 = .ok (.if_icmp .gt 29, 3) := by decide +kernel
theorem d_R_readText_59 : decode k_R_readText 59 = .ok (.aload_n 0, 1) := by decide +kernel
theorem d_R_readText_60 : decode k_R_readText 60 = .ok (.invokevirtual 57, 3) := by decide +kernel
theorem d_R_readText_63 : decode k_R_readText 63 = .ok (.ifCond .ne 10, 3) := by decide +kernel
theorem d_R_readText_66 : decode k_R_readText 66 = .ok (.aload_n 0, 1) := by decide +kernel
theorem d_R_readText_67 : decode k_R_readText 67 = .ok (.invokevirtual 61, 3) := by decide +kernel
theorem d_R_readText_70 : decode k_R_readText 70 = .ok (.ifCond .eq 7, 3) := by decide +kernel
theorem d_R_readText_73 : decode k_R_readText 73 = .ok (.iconst 1, 1) := by decide +kernel
theorem d_R_readText_74 : decode k_R_readText 74 = .ok (.goto 4, 3) := by decide +kernel
theorem d_R_readText_77 : decode k_R_readText 77 = .ok (.iconst 0, 1) := by decide +kernel
theorem d_R_readText_78 : decode k_R_readText 78 = .ok (.istore_n 2, 1) := by decide +kernel
theorem d_R_readText_79 : decode k_R_readText 79 = .ok (.iinc 3 1, 3) := by decide +kernel
theorem d_R_readText_82 : decode k_R_readText 82 = .ok (.goto (-35), 3) := by decide +kernel
theorem d_R_readText_85 : decode k_R_readText 85 = .ok (.aload_n 0, 1) := by decide +kernel
theorem d_R_readText_86 : decode k_R_readText 86 = .ok (.invokevirtual 64, 3) := by decide +kernel
theorem d_R_readText_89 : decode k_R_readText 89 = .ok (.aload_n 0, 1) := by decide +kernel
theorem d_R_readText_90 : decode k_R_readText 90 = .ok (.getfield 39, 3) := by decide +kernel
theorem d_R_readText_93 : decode k_R_readText 93 = .ok (.aload_n 0, 1) := by decide +kernel
theorem d_R_readText_94 : decode k_R_readText 94 = .ok (.getfield 36, 3) := by decide +kernel
theorem d_R_readText_97 : decode k_R_readText 97 = .ok (.if_icmp .ge 13, 3) := by decide +kernel
theorem d_R_readText_100 : decode k_R_readText 100 = .ok (.aload_n 0, 1) := by decide +kernel
theorem d_R_readText_101 : decode k_R_readText 101 = .ok (.bipush 8, 2) := by decide +kernel
theorem d_R_readText_103 : decode k_R_readText 103 = .ok (.aload_n 0, 1) := by decide +kernel
theorem d_R_readText_104 : decode k_R_readText 104 = .ok (.getfield 39, 3) := by decide +kernel
theorem d_R_readText_107 : decode k_R_readText 107 = .ok (.invokevirtual 67, 3) := by decide +kernel
theorem d_R_readText_110 : decode k_R_readText 110 = .ok (.return_, 1) := by decide +kernel
theorem d_R_opensItem_0 : decode k_R_opensItem 0 = .ok (.aload_n 0, 1) := by decide +kernel
theorem d_R_opensItem_1 : decode k_R_opensItem 1 = .ok (.invokevirtual 64, 3) := by decide +kernel
theorem d_R_opensItem_4 : decode k_R_opensItem 4 = .ok (.aload_n 0, 1) := by decide +kernel
theorem d_R_opensItem_5 : decode k_R_opensItem 5 = .ok (.getfield 26, 3) := by decide +kernel
theorem d_R_opensItem_8 : decode k_R_opensItem 8 = .ok (.aload_n 0, 1) := by decide +kernel
theorem d_R_opensItem_9 : decode k_R_opensItem 9 = .ok (.getfield 12, 3) := by decide +kernel
theorem d_R_opensItem_12 : decode k_R_opensItem 12 = .ok (.invokevirtual 71, 3) := by decide +kernel
theorem d_R_opensItem_15 : decode k_R_opensItem 15 = .ok (.invokevirtual 75, 3) := by decide +kernel
theorem d_R_opensItem_18 : decode k_R_opensItem 18 = .ok (.aload_n 0, 1) := by decide +kernel
theorem d_R_opensItem_19 : decode k_R_opensItem 19 = .ok (.getfield 12, 3) := by decide +kernel
theorem d_R_opensItem_22 : decode k_R_opensItem 22 = .ok (.invokevirtual 78, 3) := by decide +kernel
theorem d_R_opensItem_25 : decode k_R_opensItem 25 = .ok (.istore_n 1, 1) := by decide +kernel
theorem d_R_opensItem_26 : decode k_R_opensItem 26 = .ok (.iload_n 1, 1) := by decide +kernel
theorem d_R_opensItem_27 : decode k_R_opensItem 27 = .ok (.tableswitch 128 0 7 #[45, 128, 128, 123, 65, 108, 108, 45], 45) := by decide +kernel
theorem d_R_opensItem_72 : decode k_R_opensItem 72 = .ok (.aload_n 0, 1) := by decide +kernel
theorem d_R_opensItem_73 : decode k_R_opensItem 73 = .ok (.invokevirtual 81, 3) := by decide +kernel
theorem d_R_opensItem_76 : decode k_R_opensItem 76 = .ok (.istore_n 2, 1) := by decide +kernel
theorem d_R_opensItem_77 : decode k_R_opensItem 77 = .ok (.aload_n 0, 1) := by decide +kernel
theorem d_R_opensItem_78 : decode k_R_opensItem 78 = .ok (.invokevirtual 64, 3) := by decide +kernel
theorem d_R_opensItem_81 : decode k_R_opensItem 81 = .ok (.aload_n 0, 1) := by decide +kernel
theorem d_R_opensItem_82 : decode k_R_opensItem 82 = .ok (.iload_n 2, 1) := by decide +kernel
theorem d_R_opensItem_83 : decode k_R_opensItem 83 = .ok (.invokevirtual 84, 3) := by decide +kernel
theorem d_R_opensItem_86 : decode k_R_opensItem 86 = .ok (.aload_n 0, 1) := by decide +kernel
theorem d_R_opensItem_87 : decode k_R_opensItem 87 = .ok (.iload_n 2, 1) := by decide +kernel
theorem d_R_opensItem_88 : decode k_R_opensItem 88 = .ok (.invokevirtual 87, 3) := by decide +kernel
theorem d_R_opensItem_91 : decode k_R_opensItem 91 = .ok (.ireturn, 1) := by decide +kernel
theorem d_R_opensItem_92 : decode k_R_opensItem 92 = .ok (.aload_n 0, 1) := by decide +kernel
theorem d_R_opensItem_93 : decode k_R_opensItem 93 = .ok (.iconst 1, 1) := by decide +kernel
theorem d_R_opensItem_94 : decode k_R_opensItem 94 = .ok (.invokevirtual 84, 3) := by decide +kernel
theorem d_R_opensItem_97 : decode k_R_opensItem 97 = .ok (.aload_n 0, 1) := by decide +kernel
theorem d_R_opensItem_98 : decode k_R_opensItem 98 = .ok (.invokevirtual 91, 3) := by decide +kernel
theorem d_R_opensItem_101 : decode k_R_opensItem 101 = .ok (.invokestatic 94, 3) := by decide +kernel
theorem d_R_opensItem_104 : decode k_R_opensItem 104 = .ok (.ifCond .eq 25, 3) := by decide +kernel
theorem d_R_opensItem_107 : decode k_R_opensItem 107 = .ok (.aload_n 0, 1) := by decide +kernel
theorem d_R_opensItem_108 : decode k_R_opensItem 108 = .ok (.getfield 26, 3) := by decide +kernel
theorem d_R_opensItem_111 : decode k_R_opensItem 111 = .ok (.aload_n 0, 1) := by decide +kernel
theorem d_R_opensItem_112 : decode k_R_opensItem 112 = .ok (.getfield 26, 3) := by decide +kernel
theorem d_R_opensItem_115 : decode k_R_opensItem 115 = .ok (.getfield 97, 3) := by decide +kernel
theorem d_R_opensItem_118 : decode k_R_opensItem 118 = .ok (.iconst 1, 1) := by decide +kernel
theorem d_R_opensItem_119 : decode k_R_opensItem 119 = .ok (.isub, 1) := by decide +kernel
theorem d_R_opensItem_120 : decode k_R_opensItem 120 = .ok (.invokevirtual 75, 3) := by decide +kernel
theorem d_R_opensItem_123 : decode k_R_opensItem 123 = .ok (.aload_n 0, 1) := by decide +kernel
theorem d_R_opensItem_124 : decode k_R_opensItem 124 = .ok (.invokevirtual 100, 3) := by decide +kernel
theorem d_R_opensItem_127 : decode k_R_opensItem 127 = .ok (.iconst 0, 1) := by decide +kernel
theorem d_R_opensItem_128 : decode k_R_opensItem 128 = .ok (.ireturn, 1) := by decide +kernel
theorem d_R_opensItem_129 : decode k_R_opensItem 129 = .ok (.aload_n 0, 1) := by decide +kernel
theorem d_R_opensItem_130 : decode k_R_opensItem 130 = .ok (.iconst 1, 1) := by decide +kernel
theorem d_R_opensItem_131 : decode k_R_opensItem 131 = .ok (.invokevirtual 87, 3) := by decide +kernel
theorem d_R_opensItem_134 : decode k_R_opensItem 134 = .ok (.ireturn, 1) := by decide +kernel
theorem d_R_opensItem_135 : decode k_R_opensItem 135 = .ok (.aload_n 0, 1) := by decide +kernel
theorem d_R_opensItem_136 : decode k_R_opensItem 136 = .ok (.iload_n 1, 1) := by decide +kernel
theorem d_R_opensItem_137 : decode k_R_opensItem 137 = .ok (.iconst 3, 1) := by decide +kernel
theorem d_R_opensItem_138 : decode k_R_opensItem 138 = .ok (.isub, 1) := by decide +kernel
theorem d_R_opensItem_139 : decode k_R_opensItem 139 = .ok (.invokevirtual 84, 3) := by decide +kernel
theorem d_R_opensItem_142 : decode k_R_opensItem 142 = .ok (.aload_n 0, 1) := by decide +kernel
theorem d_R_opensItem_143 : decode k_R_opensItem 143 = .ok (.iload_n 1, 1) := by decide +kernel
theorem d_R_opensItem_144 : decode k_R_opensItem 144 = .ok (.iconst 3, 1) := by decide +kernel
theorem d_R_opensItem_145 : decode k_R_opensItem 145 = .ok (.isub, 1) := by decide +kernel
theorem d_R_opensItem_146 : decode k_R_opensItem 146 = .ok (.invokevirtual 87, 3) := by decide +kernel
theorem d_R_opensItem_149 : decode k_R_opensItem 149 = .ok (.ireturn, 1) := by decide +kernel
theorem d_R_opensItem_150 : decode k_R_opensItem 150 = .ok (.aload_n 0, 1) := by decide +kernel
theorem d_R_opensItem_151 : decode k_R_opensItem 151 = .ok (.invokevirtual 103, 3) := by decide +kernel
theorem d_R_opensItem_154 : decode k_R_opensItem 154 = .ok (.ireturn, 1) := by decide +kernel
theorem d_R_opensItem_155 : decode k_R_opensItem 155 = .ok (.aload_n 0, 1) := by decide +kernel
theorem d_R_opensItem_156 : decode k_R_opensItem 156 = .ok (.invokevirtual 100, 3) := by decide +kernel
theorem d_R_opensItem_159 : decode k_R_opensItem 159 = .ok (.iconst 0, 1) := by decide +kernel
theorem d_R_opensItem_160 : decode k_R_opensItem 160 = .ok (.ireturn, 1) := by decide +kernel
theorem d_R_goesOn_0 : decode k_R_goesOn 0 = .ok (.iconst 0, 1) := by decide +kernel
theorem d_R_goesOn_1 : decode k_R_goesOn 1 = .ok (.istore_n 1, 1) := by decide +kernel
theorem d_R_goesOn_2 : decode k_R_goesOn 2 = .ok (.iload_n 1, 1) := by decide +kernel
theorem d_R_goesOn_3 : decode k_R_goesOn 3 = .ok (.bipush 54, 2) := by decide +kernel
theorem d_R_goesOn_5 : decode k_R_goesOn 5 = .ok (.if_icmp .ge 68, 3) := by decide +kernel
theorem d_R_goesOn_8 : decode k_R_goesOn 8 = .ok (.aload_n 0, 1) := by decide +kernel
theorem d_R_goesOn_9 : decode k_R_goesOn 9 = .ok (.getfield 12, 3) := by decide +kernel
theorem d_R_goesOn_12 : decode k_R_goesOn 12 = .ok (.getfield 106, 3) := by decide +kernel
theorem d_R_goesOn_15 : decode k_R_goesOn 15 = .ok (.ifCond .le 58, 3) := by decide +kernel
theorem d_R_goesOn_18 : decode k_R_goesOn 18 = .ok (.aload_n 0, 1) := by decide +kernel
theorem d_R_goesOn_19 : decode k_R_goesOn 19 = .ok (.invokevirtual 64, 3) := by decide +kernel
theorem d_R_goesOn_22 : decode k_R_goesOn 22 = .ok (.aload_n 0, 1) := by decide +kernel
theorem d_R_goesOn_23 : decode k_R_goesOn 23 = .ok (.invokevirtual 91, 3) := by decide +kernel
theorem d_R_goesOn_26 : decode k_R_goesOn 26 = .ok (.bipush 44, 2) := by decide +kernel
theorem d_R_goesOn_28 : decode k_R_goesOn 28 = .ok (.if_icmp .ne 26, 3) := by decide +kernel
theorem d_R_goesOn_31 : decode k_R_goesOn 31 = .ok (.aload_n 0, 1) := by decide +kernel
theorem d_R_goesOn_32 : decode k_R_goesOn 32 = .ok (.getfield 12, 3) := by decide +kernel
theorem d_R_goesOn_35 : decode k_R_goesOn 35 = .ok (.invokevirtual 78, 3) := by decide +kernel
theorem d_R_goesOn_38 : decode k_R_goesOn 38 = .ok (.iconst 1, 1) := by decide +kernel
theorem d_R_goesOn_39 : decode k_R_goesOn 39 = .ok (.if_icmp .eq 15, 3) := by decide +kernel
theorem d_R_goesOn_42 : decode k_R_goesOn 42 = .ok (.aload_n 0, 1) := by decide +kernel
theorem d_R_goesOn_43 : decode k_R_goesOn 43 = .ok (.dup, 1) := by decide +kernel
theorem d_R_goesOn_44 : decode k_R_goesOn 44 = .ok (.getfield 39, 3) := by decide +kernel
theorem d_R_goesOn_47 : decode k_R_goesOn 47 = .ok (.iconst 1, 1) := by decide +kernel
theorem d_R_goesOn_48 : decode k_R_goesOn 48 = .ok (.iadd, 1) := by decide +kernel
theorem d_R_goesOn_49 : decode k_R_goesOn 49 = .ok (.putfield 39, 3) := by decide +kernel
theorem d_R_goesOn_52 : decode k_R_goesOn 52 = .ok (.iconst 1, 1) := by decide +kernel
theorem d_R_goesOn_53 : decode k_R_goesOn 53 = .ok (.ireturn, 1) := by decide +kernel
theorem d_R_goesOn_54 : decode k_R_goesOn 54 = .ok (.aload_n 0, 1) := by decide +kernel
theorem d_R_goesOn_55 : decode k_R_goesOn 55 = .ok (.bipush 41, 2) := by decide +kernel
theorem d_R_goesOn_57 : decode k_R_goesOn 57 = .ok (.invokevirtual 109, 3) := by decide +kernel
theorem d_R_goesOn_60 : decode k_R_goesOn 60 = .ok (.aload_n 0, 1) := by decide +kernel
theorem d_R_goesOn_61 : decode k_R_goesOn 61 = .ok (.getfield 12, 3) := by decide +kernel
theorem d_R_goesOn_64 : decode k_R_goesOn 64 = .ok (.invokevirtual 112, 3) := by decide +kernel
theorem d_R_goesOn_67 : decode k_R_goesOn 67 = .ok (.iinc 1 1, 3) := by decide +kernel
theorem d_R_goesOn_70 : decode k_R_goesOn 70 = .ok (.goto (-68), 3) := by decide +kernel
theorem d_R_goesOn_73 : decode k_R_goesOn 73 = .ok (.iconst 0, 1) := by decide +kernel
theorem d_R_goesOn_74 : decode k_R_goesOn 74 = .ok (.ireturn, 1) := by decide +kernel
theorem d_R_readKind_0 : decode k_R_readKind 0 = .ok (.aload_n 0, 1) := by decide +kernel
theorem d_R_readKind_1 : decode k_R_readKind 1 = .ok (.getfield 39, 3) := by decide +kernel
theorem d_R_readKind_4 : decode k_R_readKind 4 = .ok (.istore_n 1, 1) := by decide +kernel
theorem d_R_readKind_5 : decode k_R_readKind 5 = .ok (.aload_n 0, 1) := by decide +kernel
theorem d_R_readKind_6 : decode k_R_readKind 6 = .ok (.invokevirtual 91, 3) := by decide +kernel
theorem d_R_readKind_9 : decode k_R_readKind 9 = .ok (.invokestatic 115, 3) := by decide +kernel
theorem d_R_readKind_12 : decode k_R_readKind 12 = .ok (.ifCond .ne 7, 3) := by decide +kernel
theorem d_R_readKind_15 : decode k_R_readKind 15 = .ok (.aload_n 0, 1) := by decide +kernel
theorem d_R_readKind_16 : decode k_R_readKind 16 = .ok (.invokevirtual 118, 3) := by decide +kernel
theorem d_R_readKind_19 : decode k_R_readKind 19 = .ok (.aload_n 0, 1) := by decide +kernel
theorem d_R_readKind_20 : decode k_R_readKind 20 = .ok (.invokevirtual 121, 3) := by decide +kernel
theorem d_R_readKind_23 : decode k_R_readKind 23 = .ok (.aload_n 0, 1) := by decide +kernel
theorem d_R_readKind_24 : decode k_R_readKind 24 = .ok (.iload_n 1, 1) := by decide +kernel
theorem d_R_readKind_25 : decode k_R_readKind 25 = .ok (.invokevirtual 124, 3) := by decide +kernel
theorem d_R_readKind_28 : decode k_R_readKind 28 = .ok (.istore_n 2, 1) := by decide +kernel
theorem d_R_readKind_29 : decode k_R_readKind 29 = .ok (.iload_n 2, 1) := by decide +kernel
theorem d_R_readKind_30 : decode k_R_readKind 30 = .ok (.iconst (-1), 1) := by decide +kernel
theorem d_R_readKind_31 : decode k_R_readKind 31 = .ok (.if_icmp .ne 9, 3) := by decide +kernel
theorem d_R_readKind_34 : decode k_R_readKind 34 = .ok (.aload_n 0, 1) := by decide +kernel
theorem d_R_readKind_35 : decode k_R_readKind 35 = .ok (.iconst 2, 1) := by decide +kernel
theorem d_R_readKind_36 : decode k_R_readKind 36 = .ok (.iload_n 1, 1) := by decide +kernel
theorem d_R_readKind_37 : decode k_R_readKind 37 = .ok (.invokevirtual 67, 3) := by decide +kernel
theorem d_R_readKind_40 : decode k_R_readKind 40 = .ok (.iload_n 2, 1) := by decide +kernel
theorem d_R_readKind_41 : decode k_R_readKind 41 = .ok (.bipush 7, 2) := by decide +kernel
theorem d_R_readKind_43 : decode k_R_readKind 43 = .ok (.if_icmp .ne 22, 3) := by decide +kernel
theorem d_R_readKind_46 : decode k_R_readKind 46 = .ok (.aload_n 0, 1) := by decide +kernel
theorem d_R_readKind_47 : decode k_R_readKind 47 = .ok (.getfield 12, 3) := by decide +kernel
theorem d_R_readKind_50 : decode k_R_readKind 50 = .ok (.getfield 106, 3) := by decide +kernel
theorem d_R_readKind_53 : decode k_R_readKind 53 = .ok (.bipush 50, 2) := by decide +kernel
theorem d_R_readKind_55 : decode k_R_readKind 55 = .ok (.if_icmp .lt 10, 3) := by decide +kernel
theorem d_R_readKind_58 : decode k_R_readKind 58 = .ok (.aload_n 0, 1) := by decide +kernel
theorem d_R_readKind_59 : decode k_R_readKind 59 = .ok (.bipush 6, 2) := by decide +kernel
theorem d_R_readKind_61 : decode k_R_readKind 61 = .ok (.iload_n 1, 1) := by decide +kernel
theorem d_R_readKind_62 : decode k_R_readKind 62 = .ok (.invokevirtual 67, 3) := by decide +kernel
theorem d_R_readKind_65 : decode k_R_readKind 65 = .ok (.iload_n 2, 1) := by decide +kernel
theorem d_R_readKind_66 : decode k_R_readKind 66 = .ok (.ireturn, 1) := by decide +kernel
theorem d_R_keepKind_0 : decode k_R_keepKind 0 = .ok (.aload_n 0, 1) := by decide +kernel
theorem d_R_keepKind_1 : decode k_R_keepKind 1 = .ok (.getfield 26, 3) := by decide +kernel
theorem d_R_keepKind_4 : decode k_R_keepKind 4 = .ok (.iconst 2, 1) := by decide +kernel
theorem d_R_keepKind_5 : decode k_R_keepKind 5 = .ok (.invokevirtual 128, 3) := by decide +kernel
theorem d_R_keepKind_8 : decode k_R_keepKind 8 = .ok (.ifCond .ne 13, 3) := by decide +kernel
theorem d_R_keepKind_11 : decode k_R_keepKind 11 = .ok (.aload_n 0, 1) := by decide +kernel
theorem d_R_keepKind_12 : decode k_R_keepKind 12 = .ok (.bipush 7, 2) := by decide +kernel
theorem d_R_keepKind_14 : decode k_R_keepKind 14 = .ok (.aload_n 0, 1) := by decide +kernel
theorem d_R_keepKind_15 : decode k_R_keepKind 15 = .ok (.getfield 39, 3) := by decide +kernel
theorem d_R_keepKind_18 : decode k_R_keepKind 18 = .ok (.invokevirtual 67, 3) := by decide +kernel
theorem d_R_keepKind_21 : decode k_R_keepKind 21 = .ok (.aload_n 0, 1) := by decide +kernel
theorem d_R_keepKind_22 : decode k_R_keepKind 22 = .ok (.getfield 26, 3) := by decide +kernel
theorem d_R_keepKind_25 : decode k_R_keepKind 25 = .ok (.iload_n 1, 1) := by decide +kernel
theorem d_R_keepKind_26 : decode k_R_keepKind 26 = .ok (.invokevirtual 131, 3) := by decide +kernel
theorem d_R_keepKind_29 : decode k_R_keepKind 29 = .ok (.aload_n 0, 1) := by decide +kernel
theorem d_R_keepKind_30 : decode k_R_keepKind 30 = .ok (.getfield 26, 3) := by decide +kernel
theorem d_R_keepKind_33 : decode k_R_keepKind 33 = .ok (.iconst 0, 1) := by decide +kernel
theorem d_R_keepKind_34 : decode k_R_keepKind 34 = .ok (.invokevirtual 131, 3) := by decide +kernel
theorem d_R_keepKind_37 : decode k_R_keepKind 37 = .ok (.return_, 1) := by decide +kernel
theorem d_R_opensBracket_0 : decode k_R_opensBracket 0 = .ok (.aload_n 0, 1) := by decide +kernel
theorem d_R_opensBracket_1 : decode k_R_opensBracket 1 = .ok (.invokevirtual 91, 3) := by decide +kernel
theorem d_R_opensBracket_4 : decode k_R_opensBracket 4 = .ok (.invokestatic 115, 3) := by decide +kernel
theorem d_R_opensBracket_7 : decode k_R_opensBracket 7 = .ok (.ifCond .eq 9, 3) := by decide +kernel
theorem d_R_opensBracket_10 : decode k_R_opensBracket 10 = .ok (.aload_n 0, 1) := by decide +kernel
theorem d_R_opensBracket_11 : decode k_R_opensBracket 11 = .ok (.invokevirtual 134, 3) := by decide +kernel
theorem d_R_opensBracket_14 : decode k_R_opensBracket 14 = .ok (.iconst 0, 1) := by decide +kernel
theorem d_R_opensBracket_15 : decode k_R_opensBracket 15 = .ok (.ireturn, 1) := by decide +kernel
theorem d_R_opensBracket_16 : decode k_R_opensBracket 16 = .ok (.aload_n 0, 1) := by decide +kernel
theorem d_R_opensBracket_17 : decode k_R_opensBracket 17 = .ok (.bipush 40, 2) := by decide +kernel
theorem d_R_opensBracket_19 : decode k_R_opensBracket 19 = .ok (.invokevirtual 109, 3) := by decide +kernel
theorem d_R_opensBracket_22 : decode k_R_opensBracket 22 = .ok (.aload_n 0, 1) := by decide +kernel
theorem d_R_opensBracket_23 : decode k_R_opensBracket 23 = .ok (.getfield 12, 3) := by decide +kernel
theorem d_R_opensBracket_26 : decode k_R_opensBracket 26 = .ok (.iload_n 1, 1) := by decide +kernel
theorem d_R_opensBracket_27 : decode k_R_opensBracket 27 = .ok (.aload_n 0, 1) := by decide +kernel
theorem d_R_opensBracket_28 : decode k_R_opensBracket 28 = .ok (.getfield 26, 3) := by decide +kernel
theorem d_R_opensBracket_31 : decode k_R_opensBracket 31 = .ok (.getfield 97, 3) := by decide +kernel
theorem d_R_opensBracket_34 : decode k_R_opensBracket 34 = .ok (.iconst 1, 1) := by decide +kernel
theorem d_R_opensBracket_35 : decode k_R_opensBracket 35 = .ok (.isub, 1) := by decide +kernel
theorem d_R_opensBracket_36 : decode k_R_opensBracket 36 = .ok (.invokevirtual 137, 3) := by decide +kernel
theorem d_R_opensBracket_39 : decode k_R_opensBracket 39 = .ok (.iconst 1, 1) := by decide +kernel
theorem d_R_opensBracket_40 : decode k_R_opensBracket 40 = .ok (.ireturn, 1) := by decide +kernel
theorem d_R_opensRing_0 : decode k_R_opensRing 0 = .ok (.aload_n 0, 1) := by decide +kernel
theorem d_R_opensRing_1 : decode k_R_opensRing 1 = .ok (.getfield 26, 3) := by decide +kernel
theorem d_R_opensRing_4 : decode k_R_opensRing 4 = .ok (.iconst 1, 1) := by decide +kernel
theorem d_R_opensRing_5 : decode k_R_opensRing 5 = .ok (.invokevirtual 128, 3) := by decide +kernel
theorem d_R_opensRing_8 : decode k_R_opensRing 8 = .ok (.ifCond .ne 13, 3) := by decide +kernel
theorem d_R_opensRing_11 : decode k_R_opensRing 11 = .ok (.aload_n 0, 1) := by decide +kernel
theorem d_R_opensRing_12 : decode k_R_opensRing 12 = .ok (.bipush 7, 2) := by decide +kernel
theorem d_R_opensRing_14 : decode k_R_opensRing 14 = .ok (.aload_n 0, 1) := by decide +kernel
theorem d_R_opensRing_15 : decode k_R_opensRing 15 = .ok (.getfield 39, 3) := by decide +kernel
theorem d_R_opensRing_18 : decode k_R_opensRing 18 = .ok (.invokevirtual 67, 3) := by decide +kernel
theorem d_R_opensRing_21 : decode k_R_opensRing 21 = .ok (.aload_n 0, 1) := by decide +kernel
theorem d_R_opensRing_22 : decode k_R_opensRing 22 = .ok (.getfield 26, 3) := by decide +kernel
theorem d_R_opensRing_25 : decode k_R_opensRing 25 = .ok (.iconst 0, 1) := by decide +kernel
theorem d_R_opensRing_26 : decode k_R_opensRing 26 = .ok (.invokevirtual 131, 3) := by decide +kernel
theorem d_R_opensRing_29 : decode k_R_opensRing 29 = .ok (.aload_n 0, 1) := by decide +kernel
theorem d_R_opensRing_30 : decode k_R_opensRing 30 = .ok (.bipush 40, 2) := by decide +kernel
theorem d_R_opensRing_32 : decode k_R_opensRing 32 = .ok (.invokevirtual 109, 3) := by decide +kernel
theorem d_R_opensRing_35 : decode k_R_opensRing 35 = .ok (.aload_n 0, 1) := by decide +kernel
theorem d_R_opensRing_36 : decode k_R_opensRing 36 = .ok (.getfield 12, 3) := by decide +kernel
theorem d_R_opensRing_39 : decode k_R_opensRing 39 = .ok (.bipush 8, 2) := by decide +kernel
theorem d_R_opensRing_41 : decode k_R_opensRing 41 = .ok (.aload_n 0, 1) := by decide +kernel
theorem d_R_opensRing_42 : decode k_R_opensRing 42 = .ok (.getfield 26, 3) := by decide +kernel
theorem d_R_opensRing_45 : decode k_R_opensRing 45 = .ok (.getfield 97, 3) := by decide +kernel
theorem d_R_opensRing_48 : decode k_R_opensRing 48 = .ok (.iconst 1, 1) := by decide +kernel
theorem d_R_opensRing_49 : decode k_R_opensRing 49 = .ok (.isub, 1) := by decide +kernel
theorem d_R_opensRing_50 : decode k_R_opensRing 50 = .ok (.invokevirtual 137, 3) := by decide +kernel
theorem d_R_opensRing_53 : decode k_R_opensRing 53 = .ok (.iconst 1, 1) := by decide +kernel
theorem d_R_opensRing_54 : decode k_R_opensRing 54 = .ok (.ireturn, 1) := by decide +kernel
theorem d_R_readPoint_0 : decode k_R_readPoint 0 = .ok (.aload_n 0, 1) := by decide +kernel
theorem d_R_readPoint_1 : decode k_R_readPoint 1 = .ok (.getfield 26, 3) := by decide +kernel
theorem d_R_readPoint_4 : decode k_R_readPoint 4 = .ok (.invokevirtual 139, 3) := by decide +kernel
theorem d_R_readPoint_7 : decode k_R_readPoint 7 = .ok (.ifCond .ne 13, 3) := by decide +kernel
theorem d_R_readPoint_10 : decode k_R_readPoint 10 = .ok (.aload_n 0, 1) := by decide +kernel
theorem d_R_readPoint_11 : decode k_R_readPoint 11 = .ok (.bipush 7, 2) := by decide +kernel
theorem d_R_readPoint_13 : decode k_R_readPoint 13 = .ok (.aload_n 0, 1) := by decide +kernel
theorem d_R_readPoint_14 : decode k_R_readPoint 14 = .ok (.getfield 39, 3) := by decide +kernel
theorem d_R_readPoint_17 : decode k_R_readPoint 17 = .ok (.invokevirtual 67, 3) := by decide +kernel
theorem d_R_readPoint_20 : decode k_R_readPoint 20 = .ok (.aload_n 0, 1) := by decide +kernel
theorem d_R_readPoint_21 : decode k_R_readPoint 21 = .ok (.invokevirtual 142, 3) := by decide +kernel
theorem d_R_readPoint_24 : decode k_R_readPoint 24 = .ok (.istore_n 1, 1) := by decide +kernel
theorem d_R_readPoint_25 : decode k_R_readPoint 25 = .ok (.aload_n 0, 1) := by decide +kernel
theorem d_R_readPoint_26 : decode k_R_readPoint 26 = .ok (.invokevirtual 64, 3) := by decide +kernel
theorem d_R_readPoint_29 : decode k_R_readPoint 29 = .ok (.aload_n 0, 1) := by decide +kernel
theorem d_R_readPoint_30 : decode k_R_readPoint 30 = .ok (.invokevirtual 142, 3) := by decide +kernel
theorem d_R_readPoint_33 : decode k_R_readPoint 33 = .ok (.istore_n 2, 1) := by decide +kernel
theorem d_R_readPoint_34 : decode k_R_readPoint 34 = .ok (.aload_n 0, 1) := by decide +kernel
theorem d_R_readPoint_35 : decode k_R_readPoint 35 = .ok (.getfield 26, 3) := by decide +kernel
theorem d_R_readPoint_38 : decode k_R_readPoint 38 = .ok (.iload_n 1, 1) := by decide +kernel
theorem d_R_readPoint_39 : decode k_R_readPoint 39 = .ok (.iload_n 2, 1) := by decide +kernel
theorem d_R_readPoint_40 : decode k_R_readPoint 40 = .ok (.invokevirtual 145, 3) := by decide +kernel
theorem d_R_readPoint_43 : decode k_R_readPoint 43 = .ok (.return_, 1) := by decide +kernel
theorem d_R_readNumber_0 : decode k_R_readNumber 0 = .ok (.aload_n 0, 1) := by decide +kernel
theorem d_R_readNumber_1 : decode k_R_readNumber 1 = .ok (.getfield 39, 3) := by decide +kernel
theorem d_R_readNumber_4 : decode k_R_readNumber 4 = .ok (.istore_n 1, 1) := by decide +kernel
theorem d_R_readNumber_5 : decode k_R_readNumber 5 = .ok (.aload_n 0, 1) := by decide +kernel
theorem d_R_readNumber_6 : decode k_R_readNumber 6 = .ok (.invokevirtual 91, 3) := by decide +kernel
theorem d_R_readNumber_9 : decode k_R_readNumber 9 = .ok (.invokestatic 94, 3) := by decide +kernel
theorem d_R_readNumber_12 : decode k_R_readNumber 12 = .ok (.ifCond .ne 7, 3) := by decide +kernel
theorem d_R_readNumber_15 : decode k_R_readNumber 15 = .ok (.aload_n 0, 1) := by decide +kernel
theorem d_R_readNumber_16 : decode k_R_readNumber 16 = .ok (.invokevirtual 118, 3) := by decide +kernel
theorem d_R_readNumber_19 : decode k_R_readNumber 19 = .ok (.aload_n 0, 1) := by decide +kernel
theorem d_R_readNumber_20 : decode k_R_readNumber 20 = .ok (.invokevirtual 91, 3) := by decide +kernel
theorem d_R_readNumber_23 : decode k_R_readNumber 23 = .ok (.bipush 45, 2) := by decide +kernel
theorem d_R_readNumber_25 : decode k_R_readNumber 25 = .ok (.if_icmp .ne 7, 3) := by decide +kernel
theorem d_R_readNumber_28 : decode k_R_readNumber 28 = .ok (.iconst 1, 1) := by decide +kernel
theorem d_R_readNumber_29 : decode k_R_readNumber 29 = .ok (.goto 4, 3) := by decide +kernel
theorem d_R_readNumber_32 : decode k_R_readNumber 32 = .ok (.iconst 0, 1) := by decide +kernel
theorem d_R_readNumber_33 : decode k_R_readNumber 33 = .ok (.istore_n 2, 1) := by decide +kernel
theorem d_R_readNumber_34 : decode k_R_readNumber 34 = .ok (.aload_n 0, 1) := by decide +kernel
theorem d_R_readNumber_35 : decode k_R_readNumber 35 = .ok (.invokevirtual 148, 3) := by decide +kernel
theorem d_R_readNumber_38 : decode k_R_readNumber 38 = .ok (.aload_n 0, 1) := by decide +kernel
theorem d_R_readNumber_39 : decode k_R_readNumber 39 = .ok (.getfield 39, 3) := by decide +kernel
theorem d_R_readNumber_42 : decode k_R_readNumber 42 = .ok (.istore_n 3, 1) := by decide +kernel
theorem d_R_readNumber_43 : decode k_R_readNumber 43 = .ok (.aload_n 0, 1) := by decide +kernel
theorem d_R_readNumber_44 : decode k_R_readNumber 44 = .ok (.invokevirtual 151, 3) := by decide +kernel
theorem d_R_readNumber_47 : decode k_R_readNumber 47 = .ok (.istore 4, 2) := by decide +kernel
theorem d_R_readNumber_49 : decode k_R_readNumber 49 = .ok (.iload 4, 2) := by decide +kernel
theorem d_R_readNumber_51 : decode k_R_readNumber 51 = .ok (.istore 5, 2) := by decide +kernel
theorem d_R_readNumber_53 : decode k_R_readNumber 53 = .ok (.aload_n 0, 1) := by decide +kernel
theorem d_R_readNumber_54 : decode k_R_readNumber 54 = .ok (.invokevirtual 91, 3) := by decide +kernel
theorem d_R_readNumber_57 : decode k_R_readNumber 57 = .ok (.bipush 46, 2) := by decide +kernel
theorem d_R_readNumber_59 : decode k_R_readNumber 59 = .ok (.if_icmp .ne 22, 3) := by decide +kernel
theorem d_R_readNumber_62 : decode k_R_readNumber 62 = .ok (.aload_n 0, 1) := by decide +kernel
theorem d_R_readNumber_63 : decode k_R_readNumber 63 = .ok (.dup, 1) := by decide +kernel
theorem d_R_readNumber_64 : decode k_R_readNumber 64 = .ok (.getfield 39, 3) := by decide +kernel
theorem d_R_readNumber_67 : decode k_R_readNumber 67 = .ok (.iconst 1, 1) := by decide +kernel
theorem d_R_readNumber_68 : decode k_R_readNumber 68 = .ok (.iadd, 1) := by decide +kernel
theorem d_R_readNumber_69 : decode k_R_readNumber 69 = .ok (.putfield 39, 3) := by decide +kernel
theorem d_R_readNumber_72 : decode k_R_readNumber 72 = .ok (.iload 5, 2) := by decide +kernel
theorem d_R_readNumber_74 : decode k_R_readNumber 74 = .ok (.aload_n 0, 1) := by decide +kernel
theorem d_R_readNumber_75 : decode k_R_readNumber 75 = .ok (.invokevirtual 151, 3) := by decide +kernel
theorem d_R_readNumber_78 : decode k_R_readNumber 78 = .ok (.iadd, 1) := by decide +kernel
theorem d_R_readNumber_79 : decode k_R_readNumber 79 = .ok (.istore 5, 2) := by decide +kernel
theorem d_R_readNumber_81 : decode k_R_readNumber 81 = .ok (.aload_n 0, 1) := by decide +kernel
theorem d_R_readNumber_82 : decode k_R_readNumber 82 = .ok (.getfield 39, 3) := by decide +kernel
theorem d_R_readNumber_85 : decode k_R_readNumber 85 = .ok (.istore 6, 2) := by decide +kernel
theorem d_R_readNumber_87 : decode k_R_readNumber 87 = .ok (.aload_n 0, 1) := by decide +kernel
theorem d_R_readNumber_88 : decode k_R_readNumber 88 = .ok (.invokevirtual 91, 3) := by decide +kernel
theorem d_R_readNumber_91 : decode k_R_readNumber 91 = .ok (.bipush 101, 2) := by decide +kernel
theorem d_R_readNumber_93 : decode k_R_readNumber 93 = .ok (.if_icmp .eq 12, 3) := by decide +kernel
theorem d_R_readNumber_96 : decode k_R_readNumber 96 = .ok (.aload_n 0, 1) := by decide +kernel
theorem d_R_readNumber_97 : decode k_R_readNumber 97 = .ok (.invokevirtual 91, 3) := by decide +kernel
theorem d_R_readNumber_100 : decode k_R_readNumber 100 = .ok (.bipush 69, 2) := by decide +kernel
theorem d_R_readNumber_102 : decode k_R_readNumber 102 = .ok (.if_icmp .ne 11, 3) := by decide +kernel
theorem d_R_readNumber_105 : decode k_R_readNumber 105 = .ok (.aload_n 0, 1) := by decide +kernel
theorem d_R_readNumber_106 : decode k_R_readNumber 106 = .ok (.iload_n 1, 1) := by decide +kernel
theorem d_R_readNumber_107 : decode k_R_readNumber 107 = .ok (.invokevirtual 154, 3) := by decide +kernel
theorem d_R_readNumber_110 : decode k_R_readNumber 110 = .ok (.goto 4, 3) := by decide +kernel
theorem d_R_readNumber_113 : decode k_R_readNumber 113 = .ok (.iconst 0, 1) := by decide +kernel
theorem d_R_readNumber_114 : decode k_R_readNumber 114 = .ok (.istore 7, 2) := by decide +kernel
theorem d_R_readNumber_116 : decode k_R_readNumber 116 = .ok (.iload 5, 2) := by decide +kernel
theorem d_R_readNumber_118 : decode k_R_readNumber 118 = .ok (.ifCond .eq 23, 3) := by decide +kernel
theorem d_R_readNumber_121 : decode k_R_readNumber 121 = .ok (.aload_n 0, 1) := by decide +kernel
theorem d_R_readNumber_122 : decode k_R_readNumber 122 = .ok (.invokevirtual 91, 3) := by decide +kernel
theorem d_R_readNumber_125 : decode k_R_readNumber 125 = .ok (.invokestatic 115, 3) := by decide +kernel
theorem d_R_readNumber_128 : decode k_R_readNumber 128 = .ok (.ifCond .ne 13, 3) := by decide +kernel
theorem d_R_readNumber_131 : decode k_R_readNumber 131 = .ok (.aload_n 0, 1) := by decide +kernel
theorem d_R_readNumber_132 : decode k_R_readNumber 132 = .ok (.invokevirtual 91, 3) := by decide +kernel
theorem d_R_readNumber_135 : decode k_R_readNumber 135 = .ok (.invokestatic 94, 3) := by decide +kernel
theorem d_R_readNumber_138 : decode k_R_readNumber 138 = .ok (.ifCond .eq 9, 3) := by decide +kernel
theorem d_R_readNumber_141 : decode k_R_readNumber 141 = .ok (.aload_n 0, 1) := by decide +kernel
theorem d_R_readNumber_142 : decode k_R_readNumber 142 = .ok (.iconst 4, 1) := by decide +kernel
theorem d_R_readNumber_143 : decode k_R_readNumber 143 = .ok (.iload_n 1, 1) := by decide +kernel
theorem d_R_readNumber_144 : decode k_R_readNumber 144 = .ok (.invokevirtual 67, 3) := by decide +kernel
theorem d_R_readNumber_147 : decode k_R_readNumber 147 = .ok (.aload_n 0, 1) := by decide +kernel
theorem d_R_readNumber_148 : decode k_R_readNumber 148 = .ok (.iload_n 3, 1) := by decide +kernel
theorem d_R_readNumber_149 : decode k_R_readNumber 149 = .ok (.iload 6, 2) := by decide +kernel
theorem d_R_readNumber_151 : decode k_R_readNumber 151 = .ok (.iload 4, 2) := by decide +kernel
theorem d_R_readNumber_153 : decode k_R_readNumber 153 = .ok (.iload 7, 2) := by decide +kernel
theorem d_R_readNumber_155 : decode k_R_readNumber 155 = .ok (.iadd, 1) := by decide +kernel
theorem d_R_readNumber_156 : decode k_R_readNumber 156 = .ok (.aload_n 0, 1) := by decide +kernel
theorem d_R_readNumber_157 : decode k_R_readNumber 157 = .ok (.getfield 22, 3) := by decide +kernel
theorem d_R_readNumber_160 : decode k_R_readNumber 160 = .ok (.iadd, 1) := by decide +kernel
theorem d_R_readNumber_161 : decode k_R_readNumber 161 = .ok (.invokevirtual 157, 3) := by decide +kernel
theorem d_R_readNumber_164 : decode k_R_readNumber 164 = .ok (.lstore 8, 2) := by decide +kernel
theorem d_R_readNumber_166 : decode k_R_readNumber 166 = .ok (.lload 8, 2) := by decide +kernel
theorem d_R_readNumber_168 : decode k_R_readNumber 168 = .ok (.ldc2_w 161, 3) := by decide +kernel
theorem d_R_readNumber_171 : decode k_R_readNumber 171 = .ok (.lcmp, 1) := by decide +kernel
theorem d_R_readNumber_172 : decode k_R_readNumber 172 = .ok (.ifCond .le 9, 3) := by decide +kernel
theorem d_R_readNumber_175 : decode k_R_readNumber 175 = .ok (.aload_n 0, 1) := by decide +kernel
theorem d_R_readNumber_176 : decode k_R_readNumber 176 = .ok (.iconst 5, 1) := by decide +kernel
theorem d_R_readNumber_177 : decode k_R_readNumber 177 = .ok (.iload_n 1, 1) := by decide +kernel
theorem d_R_readNumber_178 : decode k_R_readNumber 178 = .ok (.invokevirtual 67, 3) := by decide +kernel
theorem d_R_readNumber_181 : decode k_R_readNumber 181 = .ok (.iload_n 2, 1) := by decide +kernel
theorem d_R_readNumber_182 : decode k_R_readNumber 182 = .ok (.ifCond .eq 9, 3) := by decide +kernel
theorem d_R_readNumber_185 : decode k_R_readNumber 185 = .ok (.lload 8, 2) := by decide +kernel
theorem d_R_readNumber_187 : decode k_R_readNumber 187 = .ok (.lneg, 1) := by decide +kernel
theorem d_R_readNumber_188 : decode k_R_readNumber 188 = .ok (.goto 5, 3) := by decide +kernel
theorem d_R_readNumber_191 : decode k_R_readNumber 191 = .ok (.lload 8, 2) := by decide +kernel
theorem d_R_readNumber_193 : decode k_R_readNumber 193 = .ok (.l2i, 1) := by decide +kernel
theorem d_R_readNumber_194 : decode k_R_readNumber 194 = .ok (.ireturn, 1) := by decide +kernel
theorem d_R_readExponent_0 : decode k_R_readExponent 0 = .ok (.aload_n 0, 1) := by decide +kernel
theorem d_R_readExponent_1 : decode k_R_readExponent 1 = .ok (.dup, 1) := by decide +kernel
theorem d_R_readExponent_2 : decode k_R_readExponent 2 = .ok (.getfield 39, 3) := by decide +kernel
theorem d_R_readExponent_5 : decode k_R_readExponent 5 = .ok (.iconst 1, 1) := by decide +kernel
theorem d_R_readExponent_6 : decode k_R_readExponent 6 = .ok (.iadd, 1) := by decide +kernel
theorem d_R_readExponent_7 : decode k_R_readExponent 7 = .ok (.putfield 39, 3) := by decide +kernel
theorem d_R_readExponent_10 : decode k_R_readExponent 10 = .ok (.aload_n 0, 1) := by decide +kernel
theorem d_R_readExponent_11 : decode k_R_readExponent 11 = .ok (.invokevirtual 91, 3) := by decide +kernel
theorem d_R_readExponent_14 : decode k_R_readExponent 14 = .ok (.bipush 45, 2) := by decide +kernel
theorem d_R_readExponent_16 : decode k_R_readExponent 16 = .ok (.if_icmp .ne 7, 3) := by decide +kernel
theorem d_R_readExponent_19 : decode k_R_readExponent 19 = .ok (.iconst 1, 1) := by decide +kernel
theorem d_R_readExponent_20 : decode k_R_readExponent 20 = .ok (.goto 4, 3) := by decide +kernel
theorem d_R_readExponent_23 : decode k_R_readExponent 23 = .ok (.iconst 0, 1) := by decide +kernel
theorem d_R_readExponent_24 : decode k_R_readExponent 24 = .ok (.istore_n 2, 1) := by decide +kernel
theorem d_R_readExponent_25 : decode k_R_readExponent 25 = .ok (.aload_n 0, 1) := by decide +kernel
theorem d_R_readExponent_26 : decode k_R_readExponent 26 = .ok (.invokevirtual 148, 3) := by decide +kernel
theorem d_R_readExponent_29 : decode k_R_readExponent 29 = .ok (.aload_n 0, 1) := by decide +kernel
theorem d_R_readExponent_30 : decode k_R_readExponent 30 = .ok (.getfield 39, 3) := by decide +kernel
theorem d_R_readExponent_33 : decode k_R_readExponent 33 = .ok (.istore_n 3, 1) := by decide +kernel
theorem d_R_readExponent_34 : decode k_R_readExponent 34 = .ok (.iconst 0, 1) := by decide +kernel
theorem d_R_readExponent_35 : decode k_R_readExponent 35 = .ok (.istore 4, 2) := by decide +kernel
theorem d_R_readExponent_37 : decode k_R_readExponent 37 = .ok (.aload_n 0, 1) := by decide +kernel
theorem d_R_readExponent_38 : decode k_R_readExponent 38 = .ok (.getfield 39, 3) := by decide +kernel
theorem d_R_readExponent_41 : decode k_R_readExponent 41 = .ok (.aload_n 0, 1) := by decide +kernel
theorem d_R_readExponent_42 : decode k_R_readExponent 42 = .ok (.getfield 36, 3) := by decide +kernel
theorem d_R_readExponent_45 : decode k_R_readExponent 45 = .ok (.if_icmp .ge 56, 3) := by decide +kernel
theorem d_R_readExponent_48 : decode k_R_readExponent 48 = .ok (.aload_n 0, 1) := by decide +kernel
theorem d_R_readExponent_49 : decode k_R_readExponent 49 = .ok (.getfield 18, 3) := by decide +kernel
theorem d_R_readExponent_52 : decode k_R_readExponent 52 = .ok (.aload_n 0, 1) := by decide +kernel
theorem d_R_readExponent_53 : decode k_R_readExponent 53 = .ok (.getfield 39, 3) := by decide +kernel
theorem d_R_readExponent_56 : decode k_R_readExponent 56 = .ok (.baload, 1) := by decide +kernel
theorem d_R_readExponent_57 : decode k_R_readExponent 57 = .ok (.invokestatic 163, 3) := by decide +kernel
theorem d_R_readExponent_60 : decode k_R_readExponent 60 = .ok (.ifCond .eq 41, 3) := by decide +kernel
theorem d_R_readExponent_63 : decode k_R_readExponent 63 = .ok (.bipush 10, 2) := by decide +kernel
theorem d_R_readExponent_65 : decode k_R_readExponent 65 = .ok (.iload 4, 2) := by decide +kernel
theorem d_R_readExponent_67 : decode k_R_readExponent 67 = .ok (.imul, 1) := by decide +kernel
theorem d_R_readExponent_68 : decode k_R_readExponent 68 = .ok (.aload_n 0, 1) := by decide +kernel
theorem d_R_readExponent_69 : decode k_R_readExponent 69 = .ok (.getfield 18, 3) := by decide +kernel
theorem d_R_readExponent_72 : decode k_R_readExponent 72 = .ok (.aload_n 0, 1) := by decide +kernel
theorem d_R_readExponent_73 : decode k_R_readExponent 73 = .ok (.getfield 39, 3) := by decide +kernel
theorem d_R_readExponent_76 : decode k_R_readExponent 76 = .ok (.baload, 1) := by decide +kernel
theorem d_R_readExponent_77 : decode k_R_readExponent 77 = .ok (.iadd, 1) := by decide +kernel
theorem d_R_readExponent_78 : decode k_R_readExponent 78 = .ok (.bipush 48, 2) := by decide +kernel
theorem d_R_readExponent_80 : decode k_R_readExponent 80 = .ok (.isub, 1) := by decide +kernel
theorem d_R_readExponent_81 : decode k_R_readExponent 81 = .ok (.ldc 166, 2) := by decide +kernel
theorem d_R_readExponent_83 : decode k_R_readExponent 83 = .ok (.invokestatic 30, 3) := by decide +kernel
theorem d_R_readExponent_86 : decode k_R_readExponent 86 = .ok (.istore 4, 2) := by decide +kernel
theorem d_R_readExponent_88 : decode k_R_readExponent 88 = .ok (.aload_n 0, 1) := by decide +kernel
theorem d_R_readExponent_89 : decode k_R_readExponent 89 = .ok (.dup, 1) := by decide +kernel
theorem d_R_readExponent_90 : decode k_R_readExponent 90 = .ok (.getfield 39, 3) := by decide +kernel
theorem d_R_readExponent_93 : decode k_R_readExponent 93 = .ok (.iconst 1, 1) := by decide +kernel
theorem d_R_readExponent_94 : decode k_R_readExponent 94 = .ok (.iadd, 1) := by decide +kernel
theorem d_R_readExponent_95 : decode k_R_readExponent 95 = .ok (.putfield 39, 3) := by decide +kernel
theorem d_R_readExponent_98 : decode k_R_readExponent 98 = .ok (.goto (-61), 3) := by decide +kernel
theorem d_R_readExponent_101 : decode k_R_readExponent 101 = .ok (.aload_n 0, 1) := by decide +kernel
theorem d_R_readExponent_102 : decode k_R_readExponent 102 = .ok (.getfield 39, 3) := by decide +kernel
theorem d_R_readExponent_105 : decode k_R_readExponent 105 = .ok (.iload_n 3, 1) := by decide +kernel
theorem d_R_readExponent_106 : decode k_R_readExponent 106 = .ok (.if_icmp .ne 9, 3) := by decide +kernel
theorem d_R_readExponent_109 : decode k_R_readExponent 109 = .ok (.aload_n 0, 1) := by decide +kernel
theorem d_R_readExponent_110 : decode k_R_readExponent 110 = .ok (.iconst 4, 1) := by decide +kernel
theorem d_R_readExponent_111 : decode k_R_readExponent 111 = .ok (.iload_n 1, 1) := by decide +kernel
theorem d_R_readExponent_112 : decode k_R_readExponent 112 = .ok (.invokevirtual 67, 3) := by decide +kernel
theorem d_R_readExponent_115 : decode k_R_readExponent 115 = .ok (.iload_n 2, 1) := by decide +kernel
theorem d_R_readExponent_116 : decode k_R_readExponent 116 = .ok (.ifCond .eq 9, 3) := by decide +kernel
theorem d_R_readExponent_119 : decode k_R_readExponent 119 = .ok (.iload 4, 2) := by decide +kernel
theorem d_R_readExponent_121 : decode k_R_readExponent 121 = .ok (.ineg, 1) := by decide +kernel
theorem d_R_readExponent_122 : decode k_R_readExponent 122 = .ok (.goto 5, 3) := by decide +kernel
theorem d_R_readExponent_125 : decode k_R_readExponent 125 = .ok (.iload 4, 2) := by decide +kernel
theorem d_R_readExponent_127 : decode k_R_readExponent 127 = .ok (.ireturn, 1) := by decide +kernel
theorem d_R_roundedUnits_0 : decode k_R_roundedUnits 0 = .ok (.lconst 0, 1) := by decide +kernel
theorem d_R_roundedUnits_1 : decode k_R_roundedUnits 1 = .ok (.lstore 4, 2) := by decide +kernel
theorem d_R_roundedUnits_3 : decode k_R_roundedUnits 3 = .ok (.iconst 0, 1) := by decide +kernel
theorem d_R_roundedUnits_4 : decode k_R_roundedUnits 4 = .ok (.istore 6, 2) := by decide +kernel
theorem d_R_roundedUnits_6 : decode k_R_roundedUnits 6 = .ok (.iconst 0, 1) := by decide +kernel
theorem d_R_roundedUnits_7 : decode k_R_roundedUnits 7 = .ok (.istore 7, 2) := by decide +kernel
theorem d_R_roundedUnits_9 : decode k_R_roundedUnits 9 = .ok (.iconst 0, 1) := by decide +kernel
theorem d_R_roundedUnits_10 : decode k_R_roundedUnits 10 = .ok (.istore 8, 2) := by decide +kernel
theorem d_R_roundedUnits_12 : decode k_R_roundedUnits 12 = .ok (.iload_n 1, 1) := by decide +kernel
theorem d_R_roundedUnits_13 : decode k_R_roundedUnits 13 = .ok (.istore 9, 2) := by decide +kernel
theorem d_R_roundedUnits_15 : decode k_R_roundedUnits 15 = .ok (.iload 9, 2) := by decide +kernel
theorem d_R_roundedUnits_17 : decode k_R_roundedUnits 17 = .ok (.iload_n 2, 1) := by decide +kernel
theorem d_R_roundedUnits_18 : decode k_R_roundedUnits 18 = .ok (.if_icmp .ge 85, 3) := by decide +kernel
theorem d_R_roundedUnits_21 : decode k_R_roundedUnits 21 = .ok (.aload_n 0, 1) := by decide +kernel
theorem d_R_roundedUnits_22 : decode k_R_roundedUnits 22 = .ok (.getfield 18, 3) := by decide +kernel
theorem d_R_roundedUnits_25 : decode k_R_roundedUnits 25 = .ok (.iload 9, 2) := by decide +kernel
theorem d_R_roundedUnits_27 : decode k_R_roundedUnits 27 = .ok (.baload, 1) := by decide +kernel
theorem d_R_roundedUnits_28 : decode k_R_roundedUnits 28 = .ok (.invokestatic 163, 3) := by decide +kernel
theorem d_R_roundedUnits_31 : decode k_R_roundedUnits 31 = .ok (.ifCond .eq 66, 3) := by decide +kernel
theorem d_R_roundedUnits_34 : decode k_R_roundedUnits 34 = .ok (.aload_n 0, 1) := by decide +kernel
theorem d_R_roundedUnits_35 : decode k_R_roundedUnits 35 = .ok (.getfield 18, 3) := by decide +kernel
theorem d_R_roundedUnits_38 : decode k_R_roundedUnits 38 = .ok (.iload 9, 2) := by decide +kernel
theorem d_R_roundedUnits_40 : decode k_R_roundedUnits 40 = .ok (.baload, 1) := by decide +kernel
theorem d_R_roundedUnits_41 : decode k_R_roundedUnits 41 = .ok (.bipush 48, 2) := by decide +kernel
theorem d_R_roundedUnits_43 : decode k_R_roundedUnits 43 = .ok (.isub, 1) := by decide +kernel
theorem d_R_roundedUnits_44 : decode k_R_roundedUnits 44 = .ok (.istore 10, 2) := by decide +kernel
theorem d_R_roundedUnits_46 : decode k_R_roundedUnits 46 = .ok (.iload 6, 2) := by decide +kernel
theorem d_R_roundedUnits_48 : decode k_R_roundedUnits 48 = .ok (.iload_n 3, 1) := by decide +kernel
theorem d_R_roundedUnits_49 : decode k_R_roundedUnits 49 = .ok (.if_icmp .ge 17, 3) := by decide +kernel
theorem d_R_roundedUnits_52 : decode k_R_roundedUnits 52 = .ok (.lload 4, 2) := by decide +kernel
theorem d_R_roundedUnits_54 : decode k_R_roundedUnits 54 = .ok (.invokestatic 167, 3) := by decide +kernel
theorem d_R_roundedUnits_57 : decode k_R_roundedUnits 57 = .ok (.iload 10, 2) := by decide +kernel
theorem d_R_roundedUnits_59 : decode k_R_roundedUnits 59 = .ok (.i2l, 1) := by decide +kernel
theorem d_R_roundedUnits_60 : decode k_R_roundedUnits 60 = .ok (.ladd, 1) := by decide +kernel
theorem d_R_roundedUnits_61 : decode k_R_roundedUnits 61 = .ok (.lstore 4, 2) := by decide +kernel
theorem d_R_roundedUnits_63 : decode k_R_roundedUnits 63 = .ok (.goto 31, 3) := by decide +kernel
theorem d_R_roundedUnits_66 : decode k_R_roundedUnits 66 = .ok (.iload 6, 2) := by decide +kernel
theorem d_R_roundedUnits_68 : decode k_R_roundedUnits 68 = .ok (.iload_n 3, 1) := by decide +kernel
theorem d_R_roundedUnits_69 : decode k_R_roundedUnits 69 = .ok (.if_icmp .ne 10, 3) := by decide +kernel
theorem d_R_roundedUnits_72 : decode k_R_roundedUnits 72 = .ok (.iload 10, 2) := by decide +kernel
theorem d_R_roundedUnits_74 : decode k_R_roundedUnits 74 = .ok (.istore 7, 2) := by decide +kernel
theorem d_R_roundedUnits_76 : decode k_R_roundedUnits 76 = .ok (.goto 18, 3) := by decide +kernel
theorem d_R_roundedUnits_79 : decode k_R_roundedUnits 79 = .ok (.iload 8, 2) := by decide +kernel
theorem d_R_roundedUnits_81 : decode k_R_roundedUnits 81 = .ok (.iload 10, 2) := by decide +kernel
theorem d_R_roundedUnits_83 : decode k_R_roundedUnits 83 = .ok (.ifCond .eq 7, 3) := by decide +kernel
theorem d_R_roundedUnits_86 : decode k_R_roundedUnits 86 = .ok (.iconst 1, 1) := by decide +kernel
theorem d_R_roundedUnits_87 : decode k_R_roundedUnits 87 = .ok (.goto 4, 3) := by decide +kernel
theorem d_R_roundedUnits_90 : decode k_R_roundedUnits 90 = .ok (.iconst 0, 1) := by decide +kernel
theorem d_R_roundedUnits_91 : decode k_R_roundedUnits 91 = .ok (.ior, 1) := by decide +kernel
theorem d_R_roundedUnits_92 : decode k_R_roundedUnits 92 = .ok (.istore 8, 2) := by decide +kernel
theorem d_R_roundedUnits_94 : decode k_R_roundedUnits 94 = .ok (.iinc 6 1, 3) := by decide +kernel
theorem d_R_roundedUnits_97 : decode k_R_roundedUnits 97 = .ok (.iinc 9 1, 3) := by decide +kernel
theorem d_R_roundedUnits_100 : decode k_R_roundedUnits 100 = .ok (.goto (-85), 3) := by decide +kernel
theorem d_R_roundedUnits_103 : decode k_R_roundedUnits 103 = .ok (.iconst 0, 1) := by decide +kernel
theorem d_R_roundedUnits_104 : decode k_R_roundedUnits 104 = .ok (.istore 9, 2) := by decide +kernel
theorem d_R_roundedUnits_106 : decode k_R_roundedUnits 106 = .ok (.iload 9, 2) := by decide +kernel
theorem d_R_roundedUnits_108 : decode k_R_roundedUnits 108 = .ok (.bipush 10, 2) := by decide +kernel
theorem d_R_roundedUnits_110 : decode k_R_roundedUnits 110 = .ok (.if_icmp .ge 25, 3) := by decide +kernel
theorem d_R_roundedUnits_113 : decode k_R_roundedUnits 113 = .ok (.iload 6, 2) := by decide +kernel
theorem d_R_roundedUnits_115 : decode k_R_roundedUnits 115 = .ok (.iload 9, 2) := by decide +kernel
theorem d_R_roundedUnits_117 : decode k_R_roundedUnits 117 = .ok (.iadd, 1) := by decide +kernel
theorem d_R_roundedUnits_118 : decode k_R_roundedUnits 118 = .ok (.iload_n 3, 1) := by decide +kernel
theorem d_R_roundedUnits_119 : decode k_R_roundedUnits 119 = .ok (.if_icmp .ge 16, 3) := by decide +kernel
theorem d_R_roundedUnits_122 : decode k_R_roundedUnits 122 = .ok (.lload 4, 2) := by decide +kernel
theorem d_R_roundedUnits_124 : decode k_R_roundedUnits 124 = .ok (.invokestatic 167, 3) := by decide +kernel
theorem d_R_roundedUnits_127 : decode k_R_roundedUnits 127 = .ok (.lstore 4, 2) := by decide +kernel
theorem d_R_roundedUnits_129 : decode k_R_roundedUnits 129 = .ok (.iinc 9 1, 3) := by decide +kernel
theorem d_R_roundedUnits_132 : decode k_R_roundedUnits 132 = .ok (.goto (-26), 3) := by decide +kernel
theorem d_R_roundedUnits_135 : decode k_R_roundedUnits 135 = .ok (.lload 4, 2) := by decide +kernel
theorem d_R_roundedUnits_137 : decode k_R_roundedUnits 137 = .ok (.lconst 1, 1) := by decide +kernel
theorem d_R_roundedUnits_138 : decode k_R_roundedUnits 138 = .ok (.land, 1) := by decide +kernel
theorem d_R_roundedUnits_139 : decode k_R_roundedUnits 139 = .ok (.lconst 1, 1) := by decide +kernel
theorem d_R_roundedUnits_140 : decode k_R_roundedUnits 140 = .ok (.lcmp, 1) := by decide +kernel
theorem d_R_roundedUnits_141 : decode k_R_roundedUnits 141 = .ok (.ifCond .ne 7, 3) := by decide +kernel
theorem d_R_roundedUnits_144 : decode k_R_roundedUnits 144 = .ok (.iconst 1, 1) := by decide +kernel
theorem d_R_roundedUnits_145 : decode k_R_roundedUnits 145 = .ok (.goto 4, 3) := by decide +kernel
theorem d_R_roundedUnits_148 : decode k_R_roundedUnits 148 = .ok (.iconst 0, 1) := by decide +kernel
theorem d_R_roundedUnits_149 : decode k_R_roundedUnits 149 = .ok (.istore 9, 2) := by decide +kernel
theorem d_R_roundedUnits_151 : decode k_R_roundedUnits 151 = .ok (.iload 7, 2) := by decide +kernel
theorem d_R_roundedUnits_153 : decode k_R_roundedUnits 153 = .ok (.iconst 5, 1) := by decide +kernel
theorem d_R_roundedUnits_154 : decode k_R_roundedUnits 154 = .ok (.if_icmp .gt 19, 3) := by decide +kernel
theorem d_R_roundedUnits_157 : decode k_R_roundedUnits 157 = .ok (.iload 7, 2) := by decide +kernel
theorem d_R_roundedUnits_159 : decode k_R_roundedUnits 159 = .ok (.iconst 5, 1) := by decide +kernel
theorem d_R_roundedUnits_160 : decode k_R_roundedUnits 160 = .ok (.if_icmp .ne 20, 3) := by decide +kernel
theorem d_R_roundedUnits_163 : decode k_R_roundedUnits 163 = .ok (.iload 8, 2) := by decide +kernel
theorem d_R_roundedUnits_165 : decode k_R_roundedUnits 165 = .ok (.ifCond .ne 8, 3) := by decide +kernel
theorem d_R_roundedUnits_168 : decode k_R_roundedUnits 168 = .ok (.iload 9, 2) := by decide +kernel
theorem d_R_roundedUnits_170 : decode k_R_roundedUnits 170 = .ok (.ifCond .eq 10, 3) := by decide +kernel
theorem d_R_roundedUnits_173 : decode k_R_roundedUnits 173 = .ok (.lload 4, 2) := by decide +kernel
theorem d_R_roundedUnits_175 : decode k_R_roundedUnits 175 = .ok (.lconst 1, 1) := by decide +kernel
theorem d_R_roundedUnits_176 : decode k_R_roundedUnits 176 = .ok (.ladd, 1) := by decide +kernel
theorem d_R_roundedUnits_177 : decode k_R_roundedUnits 177 = .ok (.goto 5, 3) := by decide +kernel
theorem d_R_roundedUnits_180 : decode k_R_roundedUnits 180 = .ok (.lload 4, 2) := by decide +kernel
theorem d_R_roundedUnits_182 : decode k_R_roundedUnits 182 = .ok (.lreturn, 1) := by decide +kernel
theorem d_R_tenfold_0 : decode k_R_tenfold 0 = .ok (.lload_n 0, 1) := by decide +kernel
theorem d_R_tenfold_1 : decode k_R_tenfold 1 = .ok (.ldc2_w 161, 3) := by decide +kernel
theorem d_R_tenfold_4 : decode k_R_tenfold 4 = .ok (.lcmp, 1) := by decide +kernel
theorem d_R_tenfold_5 : decode k_R_tenfold 5 = .ok (.ifCond .le 7, 3) := by decide +kernel
theorem d_R_tenfold_8 : decode k_R_tenfold 8 = .ok (.lload_n 0, 1) := by decide +kernel
theorem d_R_tenfold_9 : decode k_R_tenfold 9 = .ok (.goto 8, 3) := by decide +kernel
theorem d_R_tenfold_12 : decode k_R_tenfold 12 = .ok (.ldc2_w 171, 3) := by decide +kernel
theorem d_R_tenfold_15 : decode k_R_tenfold 15 = .ok (.lload_n 0, 1) := by decide +kernel
theorem d_R_tenfold_16 : decode k_R_tenfold 16 = .ok (.lmul, 1) := by decide +kernel
theorem d_R_tenfold_17 : decode k_R_tenfold 17 = .ok (.lreturn, 1) := by decide +kernel
theorem d_R_kindFrom_0 : decode k_R_kindFrom 0 = .ok (.iconst 1, 1) := by decide +kernel
theorem d_R_kindFrom_1 : decode k_R_kindFrom 1 = .ok (.istore_n 2, 1) := by decide +kernel
theorem d_R_kindFrom_2 : decode k_R_kindFrom 2 = .ok (.iload_n 2, 1) := by decide +kernel
theorem d_R_kindFrom_3 : decode k_R_kindFrom 3 = .ok (.bipush 7, 2) := by decide +kernel
theorem d_R_kindFrom_5 : decode k_R_kindFrom 5 = .ok (.if_icmp .gt 23, 3) := by decide +kernel
theorem d_R_kindFrom_8 : decode k_R_kindFrom 8 = .ok (.aload_n 0, 1) := by decide +kernel
theorem d_R_kindFrom_9 : decode k_R_kindFrom 9 = .ok (.iload_n 1, 1) := by decide +kernel
theorem d_R_kindFrom_10 : decode k_R_kindFrom 10 = .ok (.iload_n 2, 1) := by decide +kernel
theorem d_R_kindFrom_11 : decode k_R_kindFrom 11 = .ok (.invokestatic 173, 3) := by decide +kernel
theorem d_R_kindFrom_14 : decode k_R_kindFrom 14 = .ok (.invokevirtual 177, 3) := by decide +kernel
theorem d_R_kindFrom_17 : decode k_R_kindFrom 17 = .ok (.ifCond .eq 5, 3) := by decide +kernel
theorem d_R_kindFrom_20 : decode k_R_kindFrom 20 = .ok (.iload_n 2, 1) := by decide +kernel
theorem d_R_kindFrom_21 : decode k_R_kindFrom 21 = .ok (.ireturn, 1) := by decide +kernel
theorem d_R_kindFrom_22 : decode k_R_kindFrom 22 = .ok (.iinc 2 1, 3) := by decide +kernel
theorem d_R_kindFrom_25 : decode k_R_kindFrom 25 = .ok (.goto (-23), 3) := by decide +kernel
theorem d_R_kindFrom_28 : decode k_R_kindFrom 28 = .ok (.iconst (-1), 1) := by decide +kernel
theorem d_R_kindFrom_29 : decode k_R_kindFrom 29 = .ok (.ireturn, 1) := by decide +kernel
theorem d_R_passEmpty_0 : decode k_R_passEmpty 0 = .ok (.aload_n 0, 1) := by decide +kernel
theorem d_R_passEmpty_1 : decode k_R_passEmpty 1 = .ok (.getfield 39, 3) := by decide +kernel
theorem d_R_passEmpty_4 : decode k_R_passEmpty 4 = .ok (.istore_n 1, 1) := by decide +kernel
theorem d_R_passEmpty_5 : decode k_R_passEmpty 5 = .ok (.aload_n 0, 1) := by decide +kernel
theorem d_R_passEmpty_6 : decode k_R_passEmpty 6 = .ok (.invokevirtual 121, 3) := by decide +kernel
theorem d_R_passEmpty_9 : decode k_R_passEmpty 9 = .ok (.aload_n 0, 1) := by decide +kernel
theorem d_R_passEmpty_10 : decode k_R_passEmpty 10 = .ok (.iload_n 1, 1) := by decide +kernel
theorem d_R_passEmpty_11 : decode k_R_passEmpty 11 = .ok (.ldc 181, 2) := by decide +kernel
theorem d_R_passEmpty_13 : decode k_R_passEmpty 13 = .ok (.invokevirtual 177, 3) := by decide +kernel
theorem d_R_passEmpty_16 : decode k_R_passEmpty 16 = .ok (.ifCond .ne 9, 3) := by decide +kernel
theorem d_R_passEmpty_19 : decode k_R_passEmpty 19 = .ok (.aload_n 0, 1) := by decide +kernel
theorem d_R_passEmpty_20 : decode k_R_passEmpty 20 = .ok (.iconst 2, 1) := by decide +kernel
theorem d_R_passEmpty_21 : decode k_R_passEmpty 21 = .ok (.iload_n 1, 1) := by decide +kernel
theorem d_R_passEmpty_22 : decode k_R_passEmpty 22 = .ok (.invokevirtual 67, 3) := by decide +kernel
theorem d_R_passEmpty_25 : decode k_R_passEmpty 25 = .ok (.return_, 1) := by decide +kernel
theorem d_R_isWord_0 : decode k_R_isWord 0 = .ok (.aload_n 0, 1) := by decide +kernel
theorem d_R_isWord_1 : decode k_R_isWord 1 = .ok (.getfield 39, 3) := by decide +kernel
theorem d_R_isWord_4 : decode k_R_isWord 4 = .ok (.iload_n 1, 1) := by decide +kernel
theorem d_R_isWord_5 : decode k_R_isWord 5 = .ok (.isub, 1) := by decide +kernel
theorem d_R_isWord_6 : decode k_R_isWord 6 = .ok (.aload_n 2, 1) := by decide +kernel
theorem d_R_isWord_7 : decode k_R_isWord 7 = .ok (.invokevirtual 183, 3) := by decide +kernel
theorem d_R_isWord_10 : decode k_R_isWord 10 = .ok (.if_icmp .eq 5, 3) := by decide +kernel
theorem d_R_isWord_13 : decode k_R_isWord 13 = .ok (.iconst 0, 1) := by decide +kernel
theorem d_R_isWord_14 : decode k_R_isWord 14 = .ok (.ireturn, 1) := by decide +kernel
theorem d_R_isWord_15 : decode k_R_isWord 15 = .ok (.iload_n 1, 1) := by decide +kernel
theorem d_R_isWord_16 : decode k_R_isWord 16 = .ok (.istore_n 3, 1) := by decide +kernel
theorem d_R_isWord_17 : decode k_R_isWord 17 = .ok (.iload_n 3, 1) := by decide +kernel
theorem d_R_isWord_18 : decode k_R_isWord 18 = .ok (.aload_n 0, 1) := by decide +kernel
theorem d_R_isWord_19 : decode k_R_isWord 19 = .ok (.getfield 39, 3) := by decide +kernel
theorem d_R_isWord_22 : decode k_R_isWord 22 = .ok (.if_icmp .ge 30, 3) := by decide +kernel
theorem d_R_isWord_25 : decode k_R_isWord 25 = .ok (.aload_n 0, 1) := by decide +kernel
theorem d_R_isWord_26 : decode k_R_isWord 26 = .ok (.getfield 18, 3) := by decide +kernel
theorem d_R_isWord_29 : decode k_R_isWord 29 = .ok (.iload_n 3, 1) := by decide +kernel
theorem d_R_isWord_30 : decode k_R_isWord 30 = .ok (.baload, 1) := by decide +kernel
theorem d_R_isWord_31 : decode k_R_isWord 31 = .ok (.bipush (-33), 2) := by decide +kernel
theorem d_R_isWord_33 : decode k_R_isWord 33 = .ok (.iand, 1) := by decide +kernel
theorem d_R_isWord_34 : decode k_R_isWord 34 = .ok (.aload_n 2, 1) := by decide +kernel
theorem d_R_isWord_35 : decode k_R_isWord 35 = .ok (.iload_n 3, 1) := by decide +kernel
theorem d_R_isWord_36 : decode k_R_isWord 36 = .ok (.iload_n 1, 1) := by decide +kernel
theorem d_R_isWord_37 : decode k_R_isWord 37 = .ok (.isub, 1) := by decide +kernel
theorem d_R_isWord_38 : decode k_R_isWord 38 = .ok (.invokevirtual 187, 3) := by decide +kernel
theorem d_R_isWord_41 : decode k_R_isWord 41 = .ok (.if_icmp .eq 5, 3) := by decide +kernel
theorem d_R_isWord_44 : decode k_R_isWord 44 = .ok (.iconst 0, 1) := by decide +kernel
theorem d_R_isWord_45 : decode k_R_isWord 45 = .ok (.ireturn, 1) := by decide +kernel
theorem d_R_isWord_46 : decode k_R_isWord 46 = .ok (.iinc 3 1, 3) := by decide +kernel
theorem d_R_isWord_49 : decode k_R_isWord 49 = .ok (.goto (-32), 3) := by decide +kernel
theorem d_R_isWord_52 : decode k_R_isWord 52 = .ok (.iconst 1, 1) := by decide +kernel
theorem d_R_isWord_53 : decode k_R_isWord 53 = .ok (.ireturn, 1) := by decide +kernel
theorem d_R_pass_0 : decode k_R_pass 0 = .ok (.aload_n 0, 1) := by decide +kernel
theorem d_R_pass_1 : decode k_R_pass 1 = .ok (.invokevirtual 91, 3) := by decide +kernel
theorem d_R_pass_4 : decode k_R_pass 4 = .ok (.iload_n 1, 1) := by decide +kernel
theorem d_R_pass_5 : decode k_R_pass 5 = .ok (.if_icmp .eq 7, 3) := by decide +kernel
theorem d_R_pass_8 : decode k_R_pass 8 = .ok (.aload_n 0, 1) := by decide +kernel
theorem d_R_pass_9 : decode k_R_pass 9 = .ok (.invokevirtual 118, 3) := by decide +kernel
theorem d_R_pass_12 : decode k_R_pass 12 = .ok (.aload_n 0, 1) := by decide +kernel
theorem d_R_pass_13 : decode k_R_pass 13 = .ok (.dup, 1) := by decide +kernel
theorem d_R_pass_14 : decode k_R_pass 14 = .ok (.getfield 39, 3) := by decide +kernel
theorem d_R_pass_17 : decode k_R_pass 17 = .ok (.iconst 1, 1) := by decide +kernel
theorem d_R_pass_18 : decode k_R_pass 18 = .ok (.iadd, 1) := by decide +kernel
theorem d_R_pass_19 : decode k_R_pass 19 = .ok (.putfield 39, 3) := by decide +kernel
theorem d_R_pass_22 : decode k_R_pass 22 = .ok (.return_, 1) := by decide +kernel
theorem d_R_passSign_0 : decode k_R_passSign 0 = .ok (.aload_n 0, 1) := by decide +kernel
theorem d_R_passSign_1 : decode k_R_passSign 1 = .ok (.getfield 39, 3) := by decide +kernel
theorem d_R_passSign_4 : decode k_R_passSign 4 = .ok (.aload_n 0, 1) := by decide +kernel
theorem d_R_passSign_5 : decode k_R_passSign 5 = .ok (.getfield 36, 3) := by decide +kernel
theorem d_R_passSign_8 : decode k_R_passSign 8 = .ok (.if_icmp .ge 41, 3) := by decide +kernel
theorem d_R_passSign_11 : decode k_R_passSign 11 = .ok (.aload_n 0, 1) := by decide +kernel
theorem d_R_passSign_12 : decode k_R_passSign 12 = .ok (.getfield 18, 3) := by decide +kernel
theorem d_R_passSign_15 : decode k_R_passSign 15 = .ok (.aload_n 0, 1) := by decide +kernel
theorem d_R_passSign_16 : decode k_R_passSign 16 = .ok (.getfield 39, 3) := by decide +kernel
theorem d_R_passSign_19 : decode k_R_passSign 19 = .ok (.baload, 1) := by decide +kernel
theorem d_R_passSign_20 : decode k_R_passSign 20 = .ok (.bipush 43, 2) := by decide +kernel
theorem d_R_passSign_22 : decode k_R_passSign 22 = .ok (.if_icmp .eq 17, 3) := by decide +kernel
theorem d_R_passSign_25 : decode k_R_passSign 25 = .ok (.aload_n 0, 1) := by decide +kernel
theorem d_R_passSign_26 : decode k_R_passSign 26 = .ok (.getfield 18, 3) := by decide +kernel
theorem d_R_passSign_29 : decode k_R_passSign 29 = .ok (.aload_n 0, 1) := by decide +kernel
theorem d_R_passSign_30 : decode k_R_passSign 30 = .ok (.getfield 39, 3) := by decide +kernel
theorem d_R_passSign_33 : decode k_R_passSign 33 = .ok (.baload, 1) := by decide +kernel
theorem d_R_passSign_34 : decode k_R_passSign 34 = .ok (.bipush 45, 2) := by decide +kernel
theorem d_R_passSign_36 : decode k_R_passSign 36 = .ok (.if_icmp .ne 13, 3) := by decide +kernel
theorem d_R_passSign_39 : decode k_R_passSign 39 = .ok (.aload_n 0, 1) := by decide +kernel
theorem d_R_passSign_40 : decode k_R_passSign 40 = .ok (.dup, 1) := by decide +kernel
theorem d_R_passSign_41 : decode k_R_passSign 41 = .ok (.getfield 39, 3) := by decide +kernel
theorem d_R_passSign_44 : decode k_R_passSign 44 = .ok (.iconst 1, 1) := by decide +kernel
theorem d_R_passSign_45 : decode k_R_passSign 45 = .ok (.iadd, 1) := by decide +kernel
theorem d_R_passSign_46 : decode k_R_passSign 46 = .ok (.putfield 39, 3) := by decide +kernel
theorem d_R_passSign_49 : decode k_R_passSign 49 = .ok (.return_, 1) := by decide +kernel
theorem d_R_passDigits_0 : decode k_R_passDigits 0 = .ok (.aload_n 0, 1) := by decide +kernel
theorem d_R_passDigits_1 : decode k_R_passDigits 1 = .ok (.getfield 39, 3) := by decide +kernel
theorem d_R_passDigits_4 : decode k_R_passDigits 4 = .ok (.istore_n 1, 1) := by decide +kernel
theorem d_R_passDigits_5 : decode k_R_passDigits 5 = .ok (.aload_n 0, 1) := by decide +kernel
theorem d_R_passDigits_6 : decode k_R_passDigits 6 = .ok (.getfield 39, 3) := by decide +kernel
theorem d_R_passDigits_9 : decode k_R_passDigits 9 = .ok (.aload_n 0, 1) := by decide +kernel
theorem d_R_passDigits_10 : decode k_R_passDigits 10 = .ok (.getfield 36, 3) := by decide +kernel
theorem d_R_passDigits_13 : decode k_R_passDigits 13 = .ok (.if_icmp .ge 31, 3) := by decide +kernel
theorem d_R_passDigits_16 : decode k_R_passDigits 16 = .ok (.aload_n 0, 1) := by decide +kernel
theorem d_R_passDigits_17 : decode k_R_passDigits 17 = .ok (.getfield 18, 3) := by decide +kernel
theorem d_R_passDigits_20 : decode k_R_passDigits 20 = .ok (.aload_n 0, 1) := by decide +kernel
theorem d_R_passDigits_21 : decode k_R_passDigits 21 = .ok (.getfield 39, 3) := by decide +kernel
theorem d_R_passDigits_24 : decode k_R_passDigits 24 = .ok (.baload, 1) := by decide +kernel
theorem d_R_passDigits_25 : decode k_R_passDigits 25 = .ok (.invokestatic 163, 3) := by decide +kernel
theorem d_R_passDigits_28 : decode k_R_passDigits 28 = .ok (.ifCond .eq 16, 3) := by decide +kernel
theorem d_R_passDigits_31 : decode k_R_passDigits 31 = .ok (.aload_n 0, 1) := by decide +kernel
theorem d_R_passDigits_32 : decode k_R_passDigits 32 = .ok (.dup, 1) := by decide +kernel
theorem d_R_passDigits_33 : decode k_R_passDigits 33 = .ok (.getfield 39, 3) := by decide +kernel
theorem d_R_passDigits_36 : decode k_R_passDigits 36 = .ok (.iconst 1, 1) := by decide +kernel
theorem d_R_passDigits_37 : decode k_R_passDigits 37 = .ok (.iadd, 1) := by decide +kernel
theorem d_R_passDigits_38 : decode k_R_passDigits 38 = .ok (.putfield 39, 3) := by decide +kernel
theorem d_R_passDigits_41 : decode k_R_passDigits 41 = .ok (.goto (-36), 3) := by decide +kernel
theorem d_R_passDigits_44 : decode k_R_passDigits 44 = .ok (.aload_n 0, 1) := by decide +kernel
theorem d_R_passDigits_45 : decode k_R_passDigits 45 = .ok (.getfield 39, 3) := by decide +kernel
theorem d_R_passDigits_48 : decode k_R_passDigits 48 = .ok (.iload_n 1, 1) := by decide +kernel
theorem d_R_passDigits_49 : decode k_R_passDigits 49 = .ok (.isub, 1) := by decide +kernel
theorem d_R_passDigits_50 : decode k_R_passDigits 50 = .ok (.ireturn, 1) := by decide +kernel
theorem d_R_passLetters_0 : decode k_R_passLetters 0 = .ok (.aload_n 0, 1) := by decide +kernel
theorem d_R_passLetters_1 : decode k_R_passLetters 1 = .ok (.getfield 39, 3) := by decide +kernel
theorem d_R_passLetters_4 : decode k_R_passLetters 4 = .ok (.aload_n 0, 1) := by decide +kernel
theorem d_R_passLetters_5 : decode k_R_passLetters 5 = .ok (.getfield 36, 3) := by decide +kernel
theorem d_R_passLetters_8 : decode k_R_passLetters 8 = .ok (.if_icmp .ge 31, 3) := by decide +kernel
theorem d_R_passLetters_11 : decode k_R_passLetters 11 = .ok (.aload_n 0, 1) := by decide +kernel
theorem d_R_passLetters_12 : decode k_R_passLetters 12 = .ok (.getfield 18, 3) := by decide +kernel
theorem d_R_passLetters_15 : decode k_R_passLetters 15 = .ok (.aload_n 0, 1) := by decide +kernel
theorem d_R_passLetters_16 : decode k_R_passLetters 16 = .ok (.getfield 39, 3) := by decide +kernel
theorem d_R_passLetters_19 : decode k_R_passLetters 19 = .ok (.baload, 1) := by decide +kernel
theorem d_R_passLetters_20 : decode k_R_passLetters 20 = .ok (.invokestatic 115, 3) := by decide +kernel
theorem d_R_passLetters_23 : decode k_R_passLetters 23 = .ok (.ifCond .eq 16, 3) := by decide +kernel
theorem d_R_passLetters_26 : decode k_R_passLetters 26 = .ok (.aload_n 0, 1) := by decide +kernel
theorem d_R_passLetters_27 : decode k_R_passLetters 27 = .ok (.dup, 1) := by decide +kernel
theorem d_R_passLetters_28 : decode k_R_passLetters 28 = .ok (.getfield 39, 3) := by decide +kernel
theorem d_R_passLetters_31 : decode k_R_passLetters 31 = .ok (.iconst 1, 1) := by decide +kernel
theorem d_R_passLetters_32 : decode k_R_passLetters 32 = .ok (.iadd, 1) := by decide +kernel
theorem d_R_passLetters_33 : decode k_R_passLetters 33 = .ok (.putfield 39, 3) := by decide +kernel
theorem d_R_passLetters_36 : decode k_R_passLetters 36 = .ok (.goto (-36), 3) := by decide +kernel
theorem d_R_passLetters_39 : decode k_R_passLetters 39 = .ok (.return_, 1) := by decide +kernel
theorem d_R_skipBlanks_0 : decode k_R_skipBlanks 0 = .ok (.aload_n 0, 1) := by decide +kernel
theorem d_R_skipBlanks_1 : decode k_R_skipBlanks 1 = .ok (.getfield 39, 3) := by decide +kernel
theorem d_R_skipBlanks_4 : decode k_R_skipBlanks 4 = .ok (.aload_n 0, 1) := by decide +kernel
theorem d_R_skipBlanks_5 : decode k_R_skipBlanks 5 = .ok (.getfield 36, 3) := by decide +kernel
theorem d_R_skipBlanks_8 : decode k_R_skipBlanks 8 = .ok (.if_icmp .ge 31, 3) := by decide +kernel
theorem d_R_skipBlanks_11 : decode k_R_skipBlanks 11 = .ok (.aload_n 0, 1) := by decide +kernel
theorem d_R_skipBlanks_12 : decode k_R_skipBlanks 12 = .ok (.getfield 18, 3) := by decide +kernel
theorem d_R_skipBlanks_15 : decode k_R_skipBlanks 15 = .ok (.aload_n 0, 1) := by decide +kernel
theorem d_R_skipBlanks_16 : decode k_R_skipBlanks 16 = .ok (.getfield 39, 3) := by decide +kernel
theorem d_R_skipBlanks_19 : decode k_R_skipBlanks 19 = .ok (.baload, 1) := by decide +kernel
theorem d_R_skipBlanks_20 : decode k_R_skipBlanks 20 = .ok (.invokestatic 191, 3) := by decide +kernel
theorem d_R_skipBlanks_23 : decode k_R_skipBlanks 23 = .ok (.ifCond .eq 16, 3) := by decide +kernel
theorem d_R_skipBlanks_26 : decode k_R_skipBlanks 26 = .ok (.aload_n 0, 1) := by decide +kernel
theorem d_R_skipBlanks_27 : decode k_R_skipBlanks 27 = .ok (.dup, 1) := by decide +kernel
theorem d_R_skipBlanks_28 : decode k_R_skipBlanks 28 = .ok (.getfield 39, 3) := by decide +kernel
theorem d_R_skipBlanks_31 : decode k_R_skipBlanks 31 = .ok (.iconst 1, 1) := by decide +kernel
theorem d_R_skipBlanks_32 : decode k_R_skipBlanks 32 = .ok (.iadd, 1) := by decide +kernel
theorem d_R_skipBlanks_33 : decode k_R_skipBlanks 33 = .ok (.putfield 39, 3) := by decide +kernel
theorem d_R_skipBlanks_36 : decode k_R_skipBlanks 36 = .ok (.goto (-36), 3) := by decide +kernel
theorem d_R_skipBlanks_39 : decode k_R_skipBlanks 39 = .ok (.return_, 1) := by decide +kernel
theorem d_R_here_0 : decode k_R_here 0 = .ok (.aload_n 0, 1) := by decide +kernel
theorem d_R_here_1 : decode k_R_here 1 = .ok (.getfield 39, 3) := by decide +kernel
theorem d_R_here_4 : decode k_R_here 4 = .ok (.aload_n 0, 1) := by decide +kernel
theorem d_R_here_5 : decode k_R_here 5 = .ok (.getfield 36, 3) := by decide +kernel
theorem d_R_here_8 : decode k_R_here 8 = .ok (.if_icmp .ge 19, 3) := by decide +kernel
theorem d_R_here_11 : decode k_R_here 11 = .ok (.aload_n 0, 1) := by decide +kernel
theorem d_R_here_12 : decode k_R_here 12 = .ok (.getfield 18, 3) := by decide +kernel
theorem d_R_here_15 : decode k_R_here 15 = .ok (.aload_n 0, 1) := by decide +kernel
theorem d_R_here_16 : decode k_R_here 16 = .ok (.getfield 39, 3) := by decide +kernel
theorem d_R_here_19 : decode k_R_here 19 = .ok (.baload, 1) := by decide +kernel
theorem d_R_here_20 : decode k_R_here 20 = .ok (.sipush 255, 3) := by decide +kernel
theorem d_R_here_23 : decode k_R_here 23 = .ok (.iand, 1) := by decide +kernel
theorem d_R_here_24 : decode k_R_here 24 = .ok (.goto 4, 3) := by decide +kernel
theorem d_R_here_27 : decode k_R_here 27 = .ok (.iconst (-1), 1) := by decide +kernel
theorem d_R_here_28 : decode k_R_here 28 = .ok (.ireturn, 1) := by decide +kernel
theorem d_R_failHere_0 : decode k_R_failHere 0 = .ok (.aload_n 0, 1) := by decide +kernel
theorem d_R_failHere_1 : decode k_R_failHere 1 = .ok (.invokevirtual 91, 3) := by decide +kernel
theorem d_R_failHere_4 : decode k_R_failHere 4 = .ok (.istore_n 1, 1) := by decide +kernel
theorem d_R_failHere_5 : decode k_R_failHere 5 = .ok (.iload_n 1, 1) := by decide +kernel
theorem d_R_failHere_6 : decode k_R_failHere 6 = .ok (.invokestatic 115, 3) := by decide +kernel
theorem d_R_failHere_9 : decode k_R_failHere 9 = .ok (.ifCond .ne 28, 3) := by decide +kernel
theorem d_R_failHere_12 : decode k_R_failHere 12 = .ok (.iload_n 1, 1) := by decide +kernel
theorem d_R_failHere_13 : decode k_R_failHere 13 = .ok (.invokestatic 94, 3) := by decide +kernel
theorem d_R_failHere_16 : decode k_R_failHere 16 = .ok (.ifCond .ne 21, 3) := by decide +kernel
theorem d_R_failHere_19 : decode k_R_failHere 19 = .ok (.iload_n 1, 1) := by decide +kernel
theorem d_R_failHere_20 : decode k_R_failHere 20 = .ok (.bipush 40, 2) := by decide +kernel
theorem d_R_failHere_22 : decode k_R_failHere 22 = .ok (.if_icmp .eq 15, 3) := by decide +kernel
theorem d_R_failHere_25 : decode k_R_failHere 25 = .ok (.iload_n 1, 1) := by decide +kernel
theorem d_R_failHere_26 : decode k_R_failHere 26 = .ok (.bipush 41, 2) := by decide +kernel
theorem d_R_failHere_28 : decode k_R_failHere 28 = .ok (.if_icmp .eq 9, 3) := by decide +kernel
theorem d_R_failHere_31 : decode k_R_failHere 31 = .ok (.iload_n 1, 1) := by decide +kernel
theorem d_R_failHere_32 : decode k_R_failHere 32 = .ok (.bipush 44, 2) := by decide +kernel
theorem d_R_failHere_34 : decode k_R_failHere 34 = .ok (.if_icmp .ne 7, 3) := by decide +kernel
theorem d_R_failHere_37 : decode k_R_failHere 37 = .ok (.iconst 1, 1) := by decide +kernel
theorem d_R_failHere_38 : decode k_R_failHere 38 = .ok (.goto 4, 3) := by decide +kernel
theorem d_R_failHere_41 : decode k_R_failHere 41 = .ok (.iconst 0, 1) := by decide +kernel
theorem d_R_failHere_42 : decode k_R_failHere 42 = .ok (.istore_n 2, 1) := by decide +kernel
theorem d_R_failHere_43 : decode k_R_failHere 43 = .ok (.aload_n 0, 1) := by decide +kernel
theorem d_R_failHere_44 : decode k_R_failHere 44 = .ok (.iload_n 1, 1) := by decide +kernel
theorem d_R_failHere_45 : decode k_R_failHere 45 = .ok (.iconst (-1), 1) := by decide +kernel
theorem d_R_failHere_46 : decode k_R_failHere 46 = .ok (.if_icmp .eq 7, 3) := by decide +kernel
theorem d_R_failHere_49 : decode k_R_failHere 49 = .ok (.iload_n 2, 1) := by decide +kernel
theorem d_R_failHere_50 : decode k_R_failHere 50 = .ok (.ifCond .eq 7, 3) := by decide +kernel
theorem d_R_failHere_53 : decode k_R_failHere 53 = .ok (.iconst 3, 1) := by decide +kernel
theorem d_R_failHere_54 : decode k_R_failHere 54 = .ok (.goto 4, 3) := by decide +kernel
theorem d_R_failHere_57 : decode k_R_failHere 57 = .ok (.iconst 1, 1) := by decide +kernel
theorem d_R_failHere_58 : decode k_R_failHere 58 = .ok (.aload_n 0, 1) := by decide +kernel
theorem d_R_failHere_59 : decode k_R_failHere 59 = .ok (.getfield 39, 3) := by decide +kernel
theorem d_R_failHere_62 : decode k_R_failHere 62 = .ok (.invokevirtual 67, 3) := by decide +kernel
theorem d_R_failHere_65 : decode k_R_failHere 65 = .ok (.return_, 1) := by decide +kernel
theorem d_R_fail_0 : decode k_R_fail 0 = .ok (.aload_n 0, 1) := by decide +kernel
theorem d_R_fail_1 : decode k_R_fail 1 = .ok (.iload_n 1, 1) := by decide +kernel
theorem d_R_fail_2 : decode k_R_fail 2 = .ok (.putfield 42, 3) := by decide +kernel
theorem d_R_fail_5 : decode k_R_fail 5 = .ok (.aload_n 0, 1) := by decide +kernel
theorem d_R_fail_6 : decode k_R_fail 6 = .ok (.iload_n 2, 1) := by decide +kernel
theorem d_R_fail_7 : decode k_R_fail 7 = .ok (.putfield 45, 3) := by decide +kernel
theorem d_R_fail_10 : decode k_R_fail 10 = .ok (.new 194, 3) := by decide +kernel
theorem d_R_fail_13 : decode k_R_fail 13 = .ok (.dup, 1) := by decide +kernel
theorem d_R_fail_14 : decode k_R_fail 14 = .ok (.ldc 196, 2) := by decide +kernel
theorem d_R_fail_16 : decode k_R_fail 16 = .ok (.invokespecial 198, 3) := by decide +kernel
theorem d_R_fail_19 : decode k_R_fail 19 = .ok (.athrow, 1) := by decide +kernel
theorem d_R_isBlank_0 : decode k_R_isBlank 0 = .ok (.iload_n 0, 1) := by decide +kernel
theorem d_R_isBlank_1 : decode k_R_isBlank 1 = .ok (.bipush 32, 2) := by decide +kernel
theorem d_R_isBlank_3 : decode k_R_isBlank 3 = .ok (.if_icmp .eq 21, 3) := by decide +kernel
theorem d_R_isBlank_6 : decode k_R_isBlank 6 = .ok (.iload_n 0, 1) := by decide +kernel
theorem d_R_isBlank_7 : decode k_R_isBlank 7 = .ok (.bipush 9, 2) := by decide +kernel
theorem d_R_isBlank_9 : decode k_R_isBlank 9 = .ok (.if_icmp .eq 15, 3) := by decide +kernel
theorem d_R_isBlank_12 : decode k_R_isBlank 12 = .ok (.iload_n 0, 1) := by decide +kernel
theorem d_R_isBlank_13 : decode k_R_isBlank 13 = .ok (.bipush 10, 2) := by decide +kernel
theorem d_R_isBlank_15 : decode k_R_isBlank 15 = .ok (.if_icmp .eq 9, 3) := by decide +kernel
theorem d_R_isBlank_18 : decode k_R_isBlank 18 = .ok (.iload_n 0, 1) := by decide +kernel
theorem d_R_isBlank_19 : decode k_R_isBlank 19 = .ok (.bipush 13, 2) := by decide +kernel
theorem d_R_isBlank_21 : decode k_R_isBlank 21 = .ok (.if_icmp .ne 7, 3) := by decide +kernel
theorem d_R_isBlank_24 : decode k_R_isBlank 24 = .ok (.iconst 1, 1) := by decide +kernel
theorem d_R_isBlank_25 : decode k_R_isBlank 25 = .ok (.goto 4, 3) := by decide +kernel
theorem d_R_isBlank_28 : decode k_R_isBlank 28 = .ok (.iconst 0, 1) := by decide +kernel
theorem d_R_isBlank_29 : decode k_R_isBlank 29 = .ok (.ireturn, 1) := by decide +kernel
theorem d_R_isLetter_0 : decode k_R_isLetter 0 = .ok (.iload_n 0, 1) := by decide +kernel
theorem d_R_isLetter_1 : decode k_R_isLetter 1 = .ok (.bipush 65, 2) := by decide +kernel
theorem d_R_isLetter_3 : decode k_R_isLetter 3 = .ok (.if_icmp .lt 9, 3) := by decide +kernel
theorem d_R_isLetter_6 : decode k_R_isLetter 6 = .ok (.iload_n 0, 1) := by decide +kernel
theorem d_R_isLetter_7 : decode k_R_isLetter 7 = .ok (.bipush 90, 2) := by decide +kernel
theorem d_R_isLetter_9 : decode k_R_isLetter 9 = .ok (.if_icmp .le 15, 3) := by decide +kernel
theorem d_R_isLetter_12 : decode k_R_isLetter 12 = .ok (.iload_n 0, 1) := by decide +kernel
theorem d_R_isLetter_13 : decode k_R_isLetter 13 = .ok (.bipush 97, 2) := by decide +kernel
theorem d_R_isLetter_15 : decode k_R_isLetter 15 = .ok (.if_icmp .lt 13, 3) := by decide +kernel
theorem d_R_isLetter_18 : decode k_R_isLetter 18 = .ok (.iload_n 0, 1) := by decide +kernel
theorem d_R_isLetter_19 : decode k_R_isLetter 19 = .ok (.bipush 122, 2) := by decide +kernel
theorem d_R_isLetter_21 : decode k_R_isLetter 21 = .ok (.if_icmp .gt 7, 3) := by decide +kernel
theorem d_R_isLetter_24 : decode k_R_isLetter 24 = .ok (.iconst 1, 1) := by decide +kernel
theorem d_R_isLetter_25 : decode k_R_isLetter 25 = .ok (.goto 4, 3) := by decide +kernel
theorem d_R_isLetter_28 : decode k_R_isLetter 28 = .ok (.iconst 0, 1) := by decide +kernel
theorem d_R_isLetter_29 : decode k_R_isLetter 29 = .ok (.ireturn, 1) := by decide +kernel
theorem d_R_isDigit_0 : decode k_R_isDigit 0 = .ok (.iload_n 0, 1) := by decide +kernel
theorem d_R_isDigit_1 : decode k_R_isDigit 1 = .ok (.bipush 48, 2) := by decide +kernel
theorem d_R_isDigit_3 : decode k_R_isDigit 3 = .ok (.if_icmp .lt 13, 3) := by decide +kernel
theorem d_R_isDigit_6 : decode k_R_isDigit 6 = .ok (.iload_n 0, 1) := by decide +kernel
theorem d_R_isDigit_7 : decode k_R_isDigit 7 = .ok (.bipush 57, 2) := by decide +kernel
theorem d_R_isDigit_9 : decode k_R_isDigit 9 = .ok (.if_icmp .gt 7, 3) := by decide +kernel
theorem d_R_isDigit_12 : decode k_R_isDigit 12 = .ok (.iconst 1, 1) := by decide +kernel
theorem d_R_isDigit_13 : decode k_R_isDigit 13 = .ok (.goto 4, 3) := by decide +kernel
theorem d_R_isDigit_16 : decode k_R_isDigit 16 = .ok (.iconst 0, 1) := by decide +kernel
theorem d_R_isDigit_17 : decode k_R_isDigit 17 = .ok (.ireturn, 1) := by decide +kernel
theorem d_R_beginsNumber_0 : decode k_R_beginsNumber 0 = .ok (.iload_n 0, 1) := by decide +kernel
theorem d_R_beginsNumber_1 : decode k_R_beginsNumber 1 = .ok (.bipush 48, 2) := by decide +kernel
theorem d_R_beginsNumber_3 : decode k_R_beginsNumber 3 = .ok (.if_icmp .lt 9, 3) := by decide +kernel
theorem d_R_beginsNumber_6 : decode k_R_beginsNumber 6 = .ok (.iload_n 0, 1) := by decide +kernel
theorem d_R_beginsNumber_7 : decode k_R_beginsNumber 7 = .ok (.bipush 57, 2) := by decide +kernel
theorem d_R_beginsNumber_9 : decode k_R_beginsNumber 9 = .ok (.if_icmp .le 21, 3) := by decide +kernel
theorem d_R_beginsNumber_12 : decode k_R_beginsNumber 12 = .ok (.iload_n 0, 1) := by decide +kernel
theorem d_R_beginsNumber_13 : decode k_R_beginsNumber 13 = .ok (.bipush 43, 2) := by decide +kernel
theorem d_R_beginsNumber_15 : decode k_R_beginsNumber 15 = .ok (.if_icmp .eq 15, 3) := by decide +kernel
theorem d_R_beginsNumber_18 : decode k_R_beginsNumber 18 = .ok (.iload_n 0, 1) := by decide +kernel
theorem d_R_beginsNumber_19 : decode k_R_beginsNumber 19 = .ok (.bipush 45, 2) := by decide +kernel
theorem d_R_beginsNumber_21 : decode k_R_beginsNumber 21 = .ok (.if_icmp .eq 9, 3) := by decide +kernel
theorem d_R_beginsNumber_24 : decode k_R_beginsNumber 24 = .ok (.iload_n 0, 1) := by decide +kernel
theorem d_R_beginsNumber_25 : decode k_R_beginsNumber 25 = .ok (.bipush 46, 2) := by decide +kernel
theorem d_R_beginsNumber_27 : decode k_R_beginsNumber 27 = .ok (.if_icmp .ne 7, 3) := by decide +kernel
theorem d_R_beginsNumber_30 : decode k_R_beginsNumber 30 = .ok (.iconst 1, 1) := by decide +kernel
theorem d_R_beginsNumber_31 : decode k_R_beginsNumber 31 = .ok (.goto 4, 3) := by decide +kernel
theorem d_R_beginsNumber_34 : decode k_R_beginsNumber 34 = .ok (.iconst 0, 1) := by decide +kernel
theorem d_R_beginsNumber_35 : decode k_R_beginsNumber 35 = .ok (.ireturn, 1) := by decide +kernel
end
section
theorem d_T_init_0 : decode k_T_init 0 = .ok (.aload_n 0, 1) := by decide +kernel
theorem d_T_init_1 : decode k_T_init 1 = .ok (.invokespecial 3, 3) := by decide +kernel
theorem d_T_init_4 : decode k_T_init 4 = .ok (.aload_n 0, 1) := by decide +kernel
theorem d_T_init_5 : decode k_T_init 5 = .ok (.ldc 9, 2) := by decide +kernel
theorem d_T_init_7 : decode k_T_init 7 = .ok (.newarray .byte, 2) := by decide +kernel
theorem d_T_init_9 : decode k_T_init 9 = .ok (.putfield 10, 3) := by decide +kernel
theorem d_T_init_12 : decode k_T_init 12 = .ok (.aload_n 0, 1) := by decide +kernel
theorem d_T_init_13 : decode k_T_init 13 = .ok (.bipush 12, 2) := by decide +kernel
theorem d_T_init_15 : decode k_T_init 15 = .ok (.newarray .int, 2) := by decide +kernel
theorem d_T_init_17 : decode k_T_init 17 = .ok (.putfield 16, 3) := by decide +kernel
theorem d_T_init_20 : decode k_T_init 20 = .ok (.aload_n 0, 1) := by decide +kernel
theorem d_T_init_21 : decode k_T_init 21 = .ok (.new 20, 3) := by decide +kernel
theorem d_T_init_24 : decode k_T_init 24 = .ok (.dup, 1) := by decide +kernel
theorem d_T_init_25 : decode k_T_init 25 = .ok (.invokespecial 22, 3) := by decide +kernel
theorem d_T_init_28 : decode k_T_init 28 = .ok (.putfield 23, 3) := by decide +kernel
theorem d_T_init_31 : decode k_T_init 31 = .ok (.aload_n 0, 1) := by decide +kernel
theorem d_T_init_32 : decode k_T_init 32 = .ok (.iload_n 1, 1) := by decide +kernel
theorem d_T_init_33 : decode k_T_init 33 = .ok (.putfield 27, 3) := by decide +kernel
theorem d_T_init_36 : decode k_T_init 36 = .ok (.return_, 1) := by decide +kernel
theorem d_T_lay_0 : decode k_T_lay 0 = .ok (.aload_n 0, 1) := by decide +kernel
theorem d_T_lay_1 : decode k_T_lay 1 = .ok (.iload_n 2, 1) := by decide +kernel
theorem d_T_lay_2 : decode k_T_lay 2 = .ok (.putfield 31, 3) := by decide +kernel
theorem d_T_lay_5 : decode k_T_lay 5 = .ok (.aload_n 0, 1) := by decide +kernel
theorem d_T_lay_6 : decode k_T_lay 6 = .ok (.iconst 0, 1) := by decide +kernel
theorem d_T_lay_7 : decode k_T_lay 7 = .ok (.putfield 35, 3) := by decide +kernel
theorem d_T_lay_10 : decode k_T_lay 10 = .ok (.aload_n 0, 1) := by decide +kernel
theorem d_T_lay_11 : decode k_T_lay 11 = .ok (.iconst 0, 1) := by decide +kernel
theorem d_T_lay_12 : decode k_T_lay 12 = .ok (.putfield 38, 3) := by decide +kernel
theorem d_T_lay_15 : decode k_T_lay 15 = .ok (.aload_n 0, 1) := by decide +kernel
theorem d_T_lay_16 : decode k_T_lay 16 = .ok (.iconst 0, 1) := by decide +kernel
theorem d_T_lay_17 : decode k_T_lay 17 = .ok (.putfield 41, 3) := by decide +kernel
theorem d_T_lay_20 : decode k_T_lay 20 = .ok (.aload_n 0, 1) := by decide +kernel
theorem d_T_lay_21 : decode k_T_lay 21 = .ok (.iconst 1, 1) := by decide +kernel
theorem d_T_lay_22 : decode k_T_lay 22 = .ok (.putfield 44, 3) := by decide +kernel
theorem d_T_lay_25 : decode k_T_lay 25 = .ok (.aload_n 0, 1) := by decide +kernel
theorem d_T_lay_26 : decode k_T_lay 26 = .ok (.getfield 23, 3) := by decide +kernel
theorem d_T_lay_29 : decode k_T_lay 29 = .ok (.iconst 1, 1) := by decide +kernel
theorem d_T_lay_30 : decode k_T_lay 30 = .ok (.invokevirtual 47, 3) := by decide +kernel
theorem d_T_lay_33 : decode k_T_lay 33 = .ok (.iconst 2, 1) := by decide +kernel
theorem d_T_lay_34 : decode k_T_lay 34 = .ok (.aload_n 1, 1) := by decide +kernel
theorem d_T_lay_35 : decode k_T_lay 35 = .ok (.getfield 51, 3) := by decide +kernel
theorem d_T_lay_38 : decode k_T_lay 38 = .ok (.imul, 1) := by decide +kernel
theorem d_T_lay_39 : decode k_T_lay 39 = .ok (.aload_n 1, 1) := by decide +kernel
theorem d_T_lay_40 : decode k_T_lay 40 = .ok (.getfield 56, 3) := by decide +kernel
theorem d_T_lay_43 : decode k_T_lay 43 = .ok (.iadd, 1) := by decide +kernel
theorem d_T_lay_44 : decode k_T_lay 44 = .ok (.istore_n 3, 1) := by decide +kernel
theorem d_T_lay_45 : decode k_T_lay 45 = .ok (.iconst 0, 1) := by decide +kernel
theorem d_T_lay_46 : decode k_T_lay 46 = .ok (.istore 4, 2) := by decide +kernel
theorem d_T_lay_48 : decode k_T_lay 48 = .ok (.iload 4, 2) := by decide +kernel
theorem d_T_lay_50 : decode k_T_lay 50 = .ok (.iload_n 3, 1) := by decide +kernel
theorem d_T_lay_51 : decode k_T_lay 51 = .ok (.if_icmp .ge 60, 3) := by decide +kernel
theorem d_T_lay_54 : decode k_T_lay 54 = .ok (.aload_n 0, 1) := by decide +kernel
theorem d_T_lay_55 : decode k_T_lay 55 = .ok (.getfield 23, 3) := by decide +kernel
theorem d_T_lay_58 : decode k_T_lay 58 = .ok (.getfield 59, 3) := by decide +kernel
theorem d_T_lay_61 : decode k_T_lay 61 = .ok (.ifCond .gt 13, 3) := by decide +kernel
theorem d_T_lay_64 : decode k_T_lay 64 = .ok (.aload_n 0, 1) := by decide +kernel
theorem d_T_lay_65 : decode k_T_lay 65 = .ok (.getfield 23, 3) := by decide +kernel
theorem d_T_lay_68 : decode k_T_lay 68 = .ok (.invokevirtual 62, 3) := by decide +kernel
theorem d_T_lay_71 : decode k_T_lay 71 = .ok (.ifCond .le 40, 3) := by decide +kernel
theorem d_T_lay_74 : decode k_T_lay 74 = .ok (.aload_n 0, 1) := by decide +kernel
theorem d_T_lay_75 : decode k_T_lay 75 = .ok (.getfield 23, 3) := by decide +kernel
theorem d_T_lay_78 : decode k_T_lay 78 = .ok (.invokevirtual 62, 3) := by decide +kernel
theorem d_T_lay_81 : decode k_T_lay 81 = .ok (.ifCond .le 11, 3) := by decide +kernel
theorem d_T_lay_84 : decode k_T_lay 84 = .ok (.aload_n 0, 1) := by decide +kernel
theorem d_T_lay_85 : decode k_T_lay 85 = .ok (.aload_n 1, 1) := by decide +kernel
theorem d_T_lay_86 : decode k_T_lay 86 = .ok (.invokevirtual 66, 3) := by decide +kernel
theorem d_T_lay_89 : decode k_T_lay 89 = .ok (.goto 16, 3) := by decide +kernel
theorem d_T_lay_92 : decode k_T_lay 92 = .ok (.aload_n 0, 1) := by decide +kernel
theorem d_T_lay_93 : decode k_T_lay 93 = .ok (.bipush 41, 2) := by decide +kernel
theorem d_T_lay_95 : decode k_T_lay 95 = .ok (.invokevirtual 70, 3) := by decide +kernel
theorem d_T_lay_98 : decode k_T_lay 98 = .ok (.aload_n 0, 1) := by decide +kernel
theorem d_T_lay_99 : decode k_T_lay 99 = .ok (.getfield 23, 3) := by decide +kernel
theorem d_T_lay_102 : decode k_T_lay 102 = .ok (.invokevirtual 73, 3) := by decide +kernel
theorem d_T_lay_105 : decode k_T_lay 105 = .ok (.iinc 4 1, 3) := by decide +kernel
theorem d_T_lay_108 : decode k_T_lay 108 = .ok (.goto (-60), 3) := by decide +kernel
theorem d_T_lay_111 : decode k_T_lay 111 = .ok (.aload_n 0, 1) := by decide +kernel
theorem d_T_lay_112 : decode k_T_lay 112 = .ok (.getfield 35, 3) := by decide +kernel
theorem d_T_lay_115 : decode k_T_lay 115 = .ok (.ireturn, 1) := by decide +kernel
theorem d_T_layItem_0 : decode k_T_layItem 0 = .ok (.aload_n 0, 1) := by decide +kernel
theorem d_T_layItem_1 : decode k_T_layItem 1 = .ok (.getfield 44, 3) := by decide +kernel
theorem d_T_layItem_4 : decode k_T_layItem 4 = .ok (.ifCond .ne 15, 3) := by decide +kernel
theorem d_T_layItem_7 : decode k_T_layItem 7 = .ok (.aload_n 0, 1) := by decide +kernel
theorem d_T_layItem_8 : decode k_T_layItem 8 = .ok (.bipush 44, 2) := by decide +kernel
theorem d_T_layItem_10 : decode k_T_layItem 10 = .ok (.invokevirtual 70, 3) := by decide +kernel
theorem d_T_layItem_13 : decode k_T_layItem 13 = .ok (.aload_n 0, 1) := by decide +kernel
theorem d_T_layItem_14 : decode k_T_layItem 14 = .ok (.bipush 32, 2) := by decide +kernel
theorem d_T_layItem_16 : decode k_T_layItem 16 = .ok (.invokevirtual 70, 3) := by decide +kernel
theorem d_T_layItem_19 : decode k_T_layItem 19 = .ok (.aload_n 0, 1) := by decide +kernel
theorem d_T_layItem_20 : decode k_T_layItem 20 = .ok (.iconst 0, 1) := by decide +kernel
theorem d_T_layItem_21 : decode k_T_layItem 21 = .ok (.putfield 44, 3) := by decide +kernel
theorem d_T_layItem_24 : decode k_T_layItem 24 = .ok (.aload_n 0, 1) := by decide +kernel
theorem d_T_layItem_25 : decode k_T_layItem 25 = .ok (.getfield 23, 3) := by decide +kernel
theorem d_T_layItem_28 : decode k_T_layItem 28 = .ok (.invokevirtual 76, 3) := by decide +kernel
theorem d_T_layItem_31 : decode k_T_layItem 31 = .ok (.aload_n 0, 1) := by decide +kernel
theorem d_T_layItem_32 : decode k_T_layItem 32 = .ok (.getfield 23, 3) := by decide +kernel
theorem d_T_layItem_35 : decode k_T_layItem 35 = .ok (.invokevirtual 79, 3) := by decide +kernel
theorem d_T_layItem_38 : decode k_T_layItem 38 = .ok (.tableswitch 115 0 7 #[46, 115, 115, 101, 84, 84, 84, 46], 46) := by decide +kernel
theorem d_T_layItem_84 : decode k_T_layItem 84 = .ok (.aload_n 0, 1) := by decide +kernel
theorem d_T_layItem_85 : decode k_T_layItem 85 = .ok (.aload_n 1, 1) := by decide +kernel
theorem d_T_layItem_86 : decode k_T_layItem 86 = .ok (.aload_n 0, 1) := by decide +kernel
theorem d_T_layItem_87 : decode k_T_layItem 87 = .ok (.getfield 38, 3) := by decide +kernel
theorem d_T_layItem_90 : decode k_T_layItem 90 = .ok (.invokevirtual 82, 3) := by decide +kernel
theorem d_T_layItem_93 : decode k_T_layItem 93 = .ok (.invokestatic 86, 3) := by decide +kernel
theorem d_T_layItem_96 : decode k_T_layItem 96 = .ok (.invokevirtual 90, 3) := by decide +kernel
theorem d_T_layItem_99 : decode k_T_layItem 99 = .ok (.aload_n 0, 1) := by decide +kernel
theorem d_T_layItem_100 : decode k_T_layItem 100 = .ok (.bipush 32, 2) := by decide +kernel
theorem d_T_layItem_102 : decode k_T_layItem 102 = .ok (.invokevirtual 70, 3) := by decide +kernel
theorem d_T_layItem_105 : decode k_T_layItem 105 = .ok (.aload_n 0, 1) := by decide +kernel
theorem d_T_layItem_106 : decode k_T_layItem 106 = .ok (.aload_n 0, 1) := by decide +kernel
theorem d_T_layItem_107 : decode k_T_layItem 107 = .ok (.aload_n 1, 1) := by decide +kernel
theorem d_T_layItem_108 : decode k_T_layItem 108 = .ok (.invokevirtual 94, 3) := by decide +kernel
theorem d_T_layItem_111 : decode k_T_layItem 111 = .ok (.aload_n 0, 1) := by decide +kernel
theorem d_T_layItem_112 : decode k_T_layItem 112 = .ok (.aload_n 1, 1) := by decide +kernel
theorem d_T_layItem_113 : decode k_T_layItem 113 = .ok (.invokevirtual 94, 3) := by decide +kernel
theorem d_T_layItem_116 : decode k_T_layItem 116 = .ok (.invokevirtual 98, 3) := by decide +kernel
theorem d_T_layItem_119 : decode k_T_layItem 119 = .ok (.goto 39, 3) := by decide +kernel
theorem d_T_layItem_122 : decode k_T_layItem 122 = .ok (.aload_n 0, 1) := by decide +kernel
theorem d_T_layItem_123 : decode k_T_layItem 123 = .ok (.aload_n 0, 1) := by decide +kernel
theorem d_T_layItem_124 : decode k_T_layItem 124 = .ok (.aload_n 1, 1) := by decide +kernel
theorem d_T_layItem_125 : decode k_T_layItem 125 = .ok (.invokevirtual 94, 3) := by decide +kernel
theorem d_T_layItem_128 : decode k_T_layItem 128 = .ok (.aload_n 0, 1) := by decide +kernel
theorem d_T_layItem_129 : decode k_T_layItem 129 = .ok (.aload_n 1, 1) := by decide +kernel
theorem d_T_layItem_130 : decode k_T_layItem 130 = .ok (.invokevirtual 94, 3) := by decide +kernel
theorem d_T_layItem_133 : decode k_T_layItem 133 = .ok (.invokevirtual 98, 3) := by decide +kernel
theorem d_T_layItem_136 : decode k_T_layItem 136 = .ok (.goto 22, 3) := by decide +kernel
theorem d_T_layItem_139 : decode k_T_layItem 139 = .ok (.aload_n 0, 1) := by decide +kernel
theorem d_T_layItem_140 : decode k_T_layItem 140 = .ok (.bipush 8, 2) := by decide +kernel
theorem d_T_layItem_142 : decode k_T_layItem 142 = .ok (.aload_n 0, 1) := by decide +kernel
theorem d_T_layItem_143 : decode k_T_layItem 143 = .ok (.aload_n 1, 1) := by decide +kernel
theorem d_T_layItem_144 : decode k_T_layItem 144 = .ok (.invokevirtual 94, 3) := by decide +kernel
theorem d_T_layItem_147 : decode k_T_layItem 147 = .ok (.invokevirtual 98, 3) := by decide +kernel
theorem d_T_layItem_150 : decode k_T_layItem 150 = .ok (.goto 8, 3) := by decide +kernel
theorem d_T_layItem_153 : decode k_T_layItem 153 = .ok (.aload_n 0, 1) := by decide +kernel
theorem d_T_layItem_154 : decode k_T_layItem 154 = .ok (.aload_n 1, 1) := by decide +kernel
theorem d_T_layItem_155 : decode k_T_layItem 155 = .ok (.invokevirtual 102, 3) := by decide +kernel
theorem d_T_layItem_158 : decode k_T_layItem 158 = .ok (.return_, 1) := by decide +kernel
theorem d_T_takeNumber_0 : decode k_T_takeNumber 0 = .ok (.aload_n 1, 1) := by decide +kernel
theorem d_T_takeNumber_1 : decode k_T_takeNumber 1 = .ok (.aload_n 0, 1) := by decide +kernel
theorem d_T_takeNumber_2 : decode k_T_takeNumber 2 = .ok (.getfield 38, 3) := by decide +kernel
theorem d_T_takeNumber_5 : decode k_T_takeNumber 5 = .ok (.invokevirtual 82, 3) := by decide +kernel
theorem d_T_takeNumber_8 : decode k_T_takeNumber 8 = .ok (.istore_n 2, 1) := by decide +kernel
theorem d_T_takeNumber_9 : decode k_T_takeNumber 9 = .ok (.aload_n 0, 1) := by decide +kernel
theorem d_T_takeNumber_10 : decode k_T_takeNumber 10 = .ok (.dup, 1) := by decide +kernel
theorem d_T_takeNumber_11 : decode k_T_takeNumber 11 = .ok (.getfield 38, 3) := by decide +kernel
theorem d_T_takeNumber_14 : decode k_T_takeNumber 14 = .ok (.iconst 1, 1) := by decide +kernel
theorem d_T_takeNumber_15 : decode k_T_takeNumber 15 = .ok (.iadd, 1) := by decide +kernel
theorem d_T_takeNumber_16 : decode k_T_takeNumber 16 = .ok (.putfield 38, 3) := by decide +kernel
theorem d_T_takeNumber_19 : decode k_T_takeNumber 19 = .ok (.iload_n 2, 1) := by decide +kernel
theorem d_T_takeNumber_20 : decode k_T_takeNumber 20 = .ok (.ireturn, 1) := by decide +kernel
theorem d_T_layBody_0 : decode k_T_layBody 0 = .ok (.iload_n 2, 1) := by decide +kernel
theorem d_T_layBody_1 : decode k_T_layBody 1 = .ok (.ifCond .ne 10, 3) := by decide +kernel
theorem d_T_layBody_4 : decode k_T_layBody 4 = .ok (.aload_n 0, 1) := by decide +kernel
theorem d_T_layBody_5 : decode k_T_layBody 5 = .ok (.ldc 105, 2) := by decide +kernel
theorem d_T_layBody_7 : decode k_T_layBody 7 = .ok (.invokevirtual 90, 3) := by decide +kernel
theorem d_T_layBody_10 : decode k_T_layBody 10 = .ok (.return_, 1) := by decide +kernel
theorem d_T_layBody_11 : decode k_T_layBody 11 = .ok (.aload_n 0, 1) := by decide +kernel
theorem d_T_layBody_12 : decode k_T_layBody 12 = .ok (.bipush 40, 2) := by decide +kernel
theorem d_T_layBody_14 : decode k_T_layBody 14 = .ok (.invokevirtual 70, 3) := by decide +kernel
theorem d_T_layBody_17 : decode k_T_layBody 17 = .ok (.aload_n 0, 1) := by decide +kernel
theorem d_T_layBody_18 : decode k_T_layBody 18 = .ok (.getfield 23, 3) := by decide +kernel
theorem d_T_layBody_21 : decode k_T_layBody 21 = .ok (.iload_n 1, 1) := by decide +kernel
theorem d_T_layBody_22 : decode k_T_layBody 22 = .ok (.iload_n 2, 1) := by decide +kernel
theorem d_T_layBody_23 : decode k_T_layBody 23 = .ok (.invokevirtual 107, 3) := by decide +kernel
theorem d_T_layBody_26 : decode k_T_layBody 26 = .ok (.aload_n 0, 1) := by decide +kernel
theorem d_T_layBody_27 : decode k_T_layBody 27 = .ok (.iconst 1, 1) := by decide +kernel
theorem d_T_layBody_28 : decode k_T_layBody 28 = .ok (.putfield 44, 3) := by decide +kernel
theorem d_T_layBody_31 : decode k_T_layBody 31 = .ok (.return_, 1) := by decide +kernel
theorem d_T_layPoint_0 : decode k_T_layPoint 0 = .ok (.aload_n 0, 1) := by decide +kernel
theorem d_T_layPoint_1 : decode k_T_layPoint 1 = .ok (.aload_n 1, 1) := by decide +kernel
theorem d_T_layPoint_2 : decode k_T_layPoint 2 = .ok (.aload_n 0, 1) := by decide +kernel
theorem d_T_layPoint_3 : decode k_T_layPoint 3 = .ok (.getfield 41, 3) := by decide +kernel
theorem d_T_layPoint_6 : decode k_T_layPoint 6 = .ok (.iconst 0, 1) := by decide +kernel
theorem d_T_layPoint_7 : decode k_T_layPoint 7 = .ok (.invokevirtual 109, 3) := by decide +kernel
theorem d_T_layPoint_10 : decode k_T_layPoint 10 = .ok (.invokevirtual 113, 3) := by decide +kernel
theorem d_T_layPoint_13 : decode k_T_layPoint 13 = .ok (.aload_n 0, 1) := by decide +kernel
theorem d_T_layPoint_14 : decode k_T_layPoint 14 = .ok (.bipush 32, 2) := by decide +kernel
theorem d_T_layPoint_16 : decode k_T_layPoint 16 = .ok (.invokevirtual 70, 3) := by decide +kernel
theorem d_T_layPoint_19 : decode k_T_layPoint 19 = .ok (.aload_n 0, 1) := by decide +kernel
theorem d_T_layPoint_20 : decode k_T_layPoint 20 = .ok (.aload_n 1, 1) := by decide +kernel
theorem d_T_layPoint_21 : decode k_T_layPoint 21 = .ok (.aload_n 0, 1) := by decide +kernel
theorem d_T_layPoint_22 : decode k_T_layPoint 22 = .ok (.getfield 41, 3) := by decide +kernel
theorem d_T_layPoint_25 : decode k_T_layPoint 25 = .ok (.iconst 1, 1) := by decide +kernel
theorem d_T_layPoint_26 : decode k_T_layPoint 26 = .ok (.invokevirtual 109, 3) := by decide +kernel
theorem d_T_layPoint_29 : decode k_T_layPoint 29 = .ok (.invokevirtual 113, 3) := by decide +kernel
theorem d_T_layPoint_32 : decode k_T_layPoint 32 = .ok (.aload_n 0, 1) := by decide +kernel
theorem d_T_layPoint_33 : decode k_T_layPoint 33 = .ok (.dup, 1) := by decide +kernel
theorem d_T_layPoint_34 : decode k_T_layPoint 34 = .ok (.getfield 41, 3) := by decide +kernel
theorem d_T_layPoint_37 : decode k_T_layPoint 37 = .ok (.iconst 1, 1) := by decide +kernel
theorem d_T_layPoint_38 : decode k_T_layPoint 38 = .ok (.iadd, 1) := by decide +kernel
theorem d_T_layPoint_39 : decode k_T_layPoint 39 = .ok (.putfield 41, 3) := by decide +kernel
theorem d_T_layPoint_42 : decode k_T_layPoint 42 = .ok (.return_, 1) := by decide +kernel
theorem d_T_layNumber_0 : decode k_T_layNumber 0 = .ok (.iload_n 1, 1) := by decide +kernel
theorem d_T_layNumber_1 : decode k_T_layNumber 1 = .ok (.ifCond .ge 9, 3) := by decide +kernel
theorem d_T_layNumber_4 : decode k_T_layNumber 4 = .ok (.aload_n 0, 1) := by decide +kernel
theorem d_T_layNumber_5 : decode k_T_layNumber 5 = .ok (.bipush 45, 2) := by decide +kernel
theorem d_T_layNumber_7 : decode k_T_layNumber 7 = .ok (.invokevirtual 70, 3) := by decide +kernel
theorem d_T_layNumber_10 : decode k_T_layNumber 10 = .ok (.iload_n 1, 1) := by decide +kernel
theorem d_T_layNumber_11 : decode k_T_layNumber 11 = .ok (.ifCond .ge 8, 3) := by decide +kernel
theorem d_T_layNumber_14 : decode k_T_layNumber 14 = .ok (.iload_n 1, 1) := by decide +kernel
theorem d_T_layNumber_15 : decode k_T_layNumber 15 = .ok (.ineg, 1) := by decide +kernel
theorem d_T_layNumber_16 : decode k_T_layNumber 16 = .ok (.goto 4, 3) := by decide +kernel
theorem d_T_layNumber_19 : decode k_T_layNumber 19 = .ok (.iload_n 1, 1) := by decide +kernel
theorem d_T_layNumber_20 : decode k_T_layNumber 20 = .ok (.istore_n 2, 1) := by decide +kernel
theorem d_T_layNumber_21 : decode k_T_layNumber 21 = .ok (.iconst 0, 1) := by decide +kernel
theorem d_T_layNumber_22 : decode k_T_layNumber 22 = .ok (.istore_n 3, 1) := by decide +kernel
theorem d_T_layNumber_23 : decode k_T_layNumber 23 = .ok (.iload_n 3, 1) := by decide +kernel
theorem d_T_layNumber_24 : decode k_T_layNumber 24 = .ok (.bipush 12, 2) := by decide +kernel
theorem d_T_layNumber_26 : decode k_T_layNumber 26 = .ok (.if_icmp .ge 36, 3) := by decide +kernel
theorem d_T_layNumber_29 : decode k_T_layNumber 29 = .ok (.iload_n 3, 1) := by decide +kernel
theorem d_T_layNumber_30 : decode k_T_layNumber 30 = .ok (.aload_n 0, 1) := by decide +kernel
theorem d_T_layNumber_31 : decode k_T_layNumber 31 = .ok (.getfield 27, 3) := by decide +kernel
theorem d_T_layNumber_34 : decode k_T_layNumber 34 = .ok (.if_icmp .le 7, 3) := by decide +kernel
theorem d_T_layNumber_37 : decode k_T_layNumber 37 = .ok (.iload_n 2, 1) := by decide +kernel
theorem d_T_layNumber_38 : decode k_T_layNumber 38 = .ok (.ifCond .le 24, 3) := by decide +kernel
theorem d_T_layNumber_41 : decode k_T_layNumber 41 = .ok (.aload_n 0, 1) := by decide +kernel
theorem d_T_layNumber_42 : decode k_T_layNumber 42 = .ok (.getfield 16, 3) := by decide +kernel
theorem d_T_layNumber_45 : decode k_T_layNumber 45 = .ok (.iload_n 3, 1) := by decide +kernel
theorem d_T_layNumber_46 : decode k_T_layNumber 46 = .ok (.iload_n 2, 1) := by decide +kernel
theorem d_T_layNumber_47 : decode k_T_layNumber 47 = .ok (.bipush 10, 2) := by decide +kernel
theorem d_T_layNumber_49 : decode k_T_layNumber 49 = .ok (.irem, 1) := by decide +kernel
theorem d_T_layNumber_50 : decode k_T_layNumber 50 = .ok (.iastore, 1) := by decide +kernel
theorem d_T_layNumber_51 : decode k_T_layNumber 51 = .ok (.iload_n 2, 1) := by decide +kernel
theorem d_T_layNumber_52 : decode k_T_layNumber 52 = .ok (.bipush 10, 2) := by decide +kernel
theorem d_T_layNumber_54 : decode k_T_layNumber 54 = .ok (.idiv, 1) := by decide +kernel
theorem d_T_layNumber_55 : decode k_T_layNumber 55 = .ok (.istore_n 2, 1) := by decide +kernel
theorem d_T_layNumber_56 : decode k_T_layNumber 56 = .ok (.iinc 3 1, 3) := by decide +kernel
theorem d_T_layNumber_59 : decode k_T_layNumber 59 = .ok (.goto (-36), 3) := by decide +kernel
theorem d_T_layNumber_62 : decode k_T_layNumber 62 = .ok (.iconst 0, 1) := by decide +kernel
theorem d_T_layNumber_63 : decode k_T_layNumber 63 = .ok (.istore 4, 2) := by decide +kernel
theorem d_T_layNumber_65 : decode k_T_layNumber 65 = .ok (.iload 4, 2) := by decide +kernel
theorem d_T_layNumber_67 : decode k_T_layNumber 67 = .ok (.aload_n 0, 1) := by decide +kernel
theorem d_T_layNumber_68 : decode k_T_layNumber 68 = .ok (.getfield 27, 3) := by decide +kernel
theorem d_T_layNumber_71 : decode k_T_layNumber 71 = .ok (.if_icmp .ge 19, 3) := by decide +kernel
theorem d_T_layNumber_74 : decode k_T_layNumber 74 = .ok (.aload_n 0, 1) := by decide +kernel
theorem d_T_layNumber_75 : decode k_T_layNumber 75 = .ok (.getfield 16, 3) := by decide +kernel
theorem d_T_layNumber_78 : decode k_T_layNumber 78 = .ok (.iload 4, 2) := by decide +kernel
theorem d_T_layNumber_80 : decode k_T_layNumber 80 = .ok (.iaload, 1) := by decide +kernel
theorem d_T_layNumber_81 : decode k_T_layNumber 81 = .ok (.ifCond .ne 9, 3) := by decide +kernel
theorem d_T_layNumber_84 : decode k_T_layNumber 84 = .ok (.iinc 4 1, 3) := by decide +kernel
theorem d_T_layNumber_87 : decode k_T_layNumber 87 = .ok (.goto (-22), 3) := by decide +kernel
theorem d_T_layNumber_90 : decode k_T_layNumber 90 = .ok (.iload_n 3, 1) := by decide +kernel
theorem d_T_layNumber_91 : decode k_T_layNumber 91 = .ok (.iconst 1, 1) := by decide +kernel
theorem d_T_layNumber_92 : decode k_T_layNumber 92 = .ok (.isub, 1) := by decide +kernel
theorem d_T_layNumber_93 : decode k_T_layNumber 93 = .ok (.istore 5, 2) := by decide +kernel
theorem d_T_layNumber_95 : decode k_T_layNumber 95 = .ok (.iload 5, 2) := by decide +kernel
theorem d_T_layNumber_97 : decode k_T_layNumber 97 = .ok (.iload 4, 2) := by decide +kernel
theorem d_T_layNumber_99 : decode k_T_layNumber 99 = .ok (.if_icmp .lt 40, 3) := by decide +kernel
theorem d_T_layNumber_102 : decode k_T_layNumber 102 = .ok (.iload 5, 2) := by decide +kernel
theorem d_T_layNumber_104 : decode k_T_layNumber 104 = .ok (.aload_n 0, 1) := by decide +kernel
theorem d_T_layNumber_105 : decode k_T_layNumber 105 = .ok (.getfield 27, 3) := by decide +kernel
theorem d_T_layNumber_108 : decode k_T_layNumber 108 = .ok (.iconst 1, 1) := by decide +kernel
theorem d_T_layNumber_109 : decode k_T_layNumber 109 = .ok (.isub, 1) := by decide +kernel
theorem d_T_layNumber_110 : decode k_T_layNumber 110 = .ok (.if_icmp .ne 9, 3) := by decide +kernel
theorem d_T_layNumber_113 : decode k_T_layNumber 113 = .ok (.aload_n 0, 1) := by decide +kernel
theorem d_T_layNumber_114 : decode k_T_layNumber 114 = .ok (.bipush 46, 2) := by decide +kernel
theorem d_T_layNumber_116 : decode k_T_layNumber 116 = .ok (.invokevirtual 70, 3) := by decide +kernel
theorem d_T_layNumber_119 : decode k_T_layNumber 119 = .ok (.aload_n 0, 1) := by decide +kernel
theorem d_T_layNumber_120 : decode k_T_layNumber 120 = .ok (.bipush 48, 2) := by decide +kernel
theorem d_T_layNumber_122 : decode k_T_layNumber 122 = .ok (.aload_n 0, 1) := by decide +kernel
theorem d_T_layNumber_123 : decode k_T_layNumber 123 = .ok (.getfield 16, 3) := by decide +kernel
theorem d_T_layNumber_126 : decode k_T_layNumber 126 = .ok (.iload 5, 2) := by decide +kernel
theorem d_T_layNumber_128 : decode k_T_layNumber 128 = .ok (.iaload, 1) := by decide +kernel
theorem d_T_layNumber_129 : decode k_T_layNumber 129 = .ok (.iadd, 1) := by decide +kernel
theorem d_T_layNumber_130 : decode k_T_layNumber 130 = .ok (.invokevirtual 70, 3) := by decide +kernel
theorem d_T_layNumber_133 : decode k_T_layNumber 133 = .ok (.iinc 5 (-1), 3) := by decide +kernel
theorem d_T_layNumber_136 : decode k_T_layNumber 136 = .ok (.goto (-41), 3) := by decide +kernel
theorem d_T_layNumber_139 : decode k_T_layNumber 139 = .ok (.return_, 1) := by decide +kernel
theorem d_T_layWord_0 : decode k_T_layWord 0 = .ok (.iconst 0, 1) := by decide +kernel
theorem d_T_layWord_1 : decode k_T_layWord 1 = .ok (.istore_n 2, 1) := by decide +kernel
theorem d_T_layWord_2 : decode k_T_layWord 2 = .ok (.iload_n 2, 1) := by decide +kernel
theorem d_T_layWord_3 : decode k_T_layWord 3 = .ok (.aload_n 1, 1) := by decide +kernel
theorem d_T_layWord_4 : decode k_T_layWord 4 = .ok (.invokevirtual 116, 3) := by decide +kernel
theorem d_T_layWord_7 : decode k_T_layWord 7 = .ok (.if_icmp .ge 18, 3) := by decide +kernel
theorem d_T_layWord_10 : decode k_T_layWord 10 = .ok (.aload_n 0, 1) := by decide +kernel
theorem d_T_layWord_11 : decode k_T_layWord 11 = .ok (.aload_n 1, 1) := by decide +kernel
theorem d_T_layWord_12 : decode k_T_layWord 12 = .ok (.iload_n 2, 1) := by decide +kernel
theorem d_T_layWord_13 : decode k_T_layWord 13 = .ok (.invokevirtual 121, 3) := by decide +kernel
theorem d_T_layWord_16 : decode k_T_layWord 16 = .ok (.invokevirtual 70, 3) := by decide +kernel
theorem d_T_layWord_19 : decode k_T_layWord 19 = .ok (.iinc 2 1, 3) := by decide +kernel
theorem d_T_layWord_22 : decode k_T_layWord 22 = .ok (.goto (-20), 3) := by decide +kernel
theorem d_T_layWord_25 : decode k_T_layWord 25 = .ok (.return_, 1) := by decide +kernel
theorem d_T_put_0 : decode k_T_put 0 = .ok (.aload_n 0, 1) := by decide +kernel
theorem d_T_put_1 : decode k_T_put 1 = .ok (.getfield 31, 3) := by decide +kernel
theorem d_T_put_4 : decode k_T_put 4 = .ok (.ifCond .eq 23, 3) := by decide +kernel
theorem d_T_put_7 : decode k_T_put 7 = .ok (.aload_n 0, 1) := by decide +kernel
theorem d_T_put_8 : decode k_T_put 8 = .ok (.getfield 35, 3) := by decide +kernel
theorem d_T_put_11 : decode k_T_put 11 = .ok (.ldc 9, 2) := by decide +kernel
theorem d_T_put_13 : decode k_T_put 13 = .ok (.if_icmp .ge 14, 3) := by decide +kernel
theorem d_T_put_16 : decode k_T_put 16 = .ok (.aload_n 0, 1) := by decide +kernel
theorem d_T_put_17 : decode k_T_put 17 = .ok (.getfield 10, 3) := by decide +kernel
theorem d_T_put_20 : decode k_T_put 20 = .ok (.aload_n 0, 1) := by decide +kernel
theorem d_T_put_21 : decode k_T_put 21 = .ok (.getfield 35, 3) := by decide +kernel
theorem d_T_put_24 : decode k_T_put 24 = .ok (.iload_n 1, 1) := by decide +kernel
theorem d_T_put_25 : decode k_T_put 25 = .ok (.i2b, 1) := by decide +kernel
theorem d_T_put_26 : decode k_T_put 26 = .ok (.bastore, 1) := by decide +kernel
theorem d_T_put_27 : decode k_T_put 27 = .ok (.aload_n 0, 1) := by decide +kernel
theorem d_T_put_28 : decode k_T_put 28 = .ok (.dup, 1) := by decide +kernel
theorem d_T_put_29 : decode k_T_put 29 = .ok (.getfield 35, 3) := by decide +kernel
theorem d_T_put_32 : decode k_T_put 32 = .ok (.iconst 1, 1) := by decide +kernel
theorem d_T_put_33 : decode k_T_put 33 = .ok (.iadd, 1) := by decide +kernel
theorem d_T_put_34 : decode k_T_put 34 = .ok (.putfield 35, 3) := by decide +kernel
theorem d_T_put_37 : decode k_T_put 37 = .ok (.return_, 1) := by decide +kernel
end
section
theorem d_M_thrown_0 : decode k_M_thrown 0 = .ok (.aload_n 0, 1) := by decide +kernel
theorem d_M_thrown_1 : decode k_M_thrown 1 = .ok (.getfield 59, 3) := by decide +kernel
theorem d_M_thrown_4 : decode k_M_thrown 4 = .ok (.ireturn, 1) := by decide +kernel
theorem d_M_fail_0 : decode k_M_fail 0 = .ok (.aload_n 0, 1) := by decide +kernel
theorem d_M_fail_1 : decode k_M_fail 1 = .ok (.iload_n 1, 1) := by decide +kernel
theorem d_M_fail_2 : decode k_M_fail 2 = .ok (.putfield 59, 3) := by decide +kernel
theorem d_M_fail_5 : decode k_M_fail 5 = .ok (.iconst 0, 1) := by decide +kernel
theorem d_M_fail_6 : decode k_M_fail 6 = .ok (.ireturn, 1) := by decide +kernel
theorem d_M_within_0 : decode k_M_within 0 = .ok (.iload_n 0, 1) := by decide +kernel
theorem d_M_within_1 : decode k_M_within 1 = .ok (.iload_n 1, 1) := by decide +kernel
theorem d_M_within_2 : decode k_M_within 2 = .ok (.if_icmp .lt 12, 3) := by decide +kernel
theorem d_M_within_5 : decode k_M_within 5 = .ok (.iload_n 0, 1) := by decide +kernel
theorem d_M_within_6 : decode k_M_within 6 = .ok (.iload_n 2, 1) := by decide +kernel
theorem d_M_within_7 : decode k_M_within 7 = .ok (.if_icmp .gt 7, 3) := by decide +kernel
theorem d_M_within_10 : decode k_M_within 10 = .ok (.iconst 1, 1) := by decide +kernel
theorem d_M_within_11 : decode k_M_within 11 = .ok (.goto 4, 3) := by decide +kernel
theorem d_M_within_14 : decode k_M_within 14 = .ok (.iconst 0, 1) := by decide +kernel
theorem d_M_within_15 : decode k_M_within 15 = .ok (.ireturn, 1) := by decide +kernel
theorem d_M_isSlot_0 : decode k_M_isSlot 0 = .ok (.iload_n 0, 1) := by decide +kernel
theorem d_M_isSlot_1 : decode k_M_isSlot 1 = .ok (.iconst 0, 1) := by decide +kernel
theorem d_M_isSlot_2 : decode k_M_isSlot 2 = .ok (.iconst 3, 1) := by decide +kernel
theorem d_M_isSlot_3 : decode k_M_isSlot 3 = .ok (.invokestatic 62, 3) := by decide +kernel
theorem d_M_isSlot_6 : decode k_M_isSlot 6 = .ok (.ireturn, 1) := by decide +kernel
theorem d_M_feed_0 : decode k_M_feed 0 = .ok (.aload_n 0, 1) := by decide +kernel
theorem d_M_feed_1 : decode k_M_feed 1 = .ok (.iconst 0, 1) := by decide +kernel
theorem d_M_feed_2 : decode k_M_feed 2 = .ok (.putfield 59, 3) := by decide +kernel
theorem d_M_feed_5 : decode k_M_feed 5 = .ok (.aload_n 0, 1) := by decide +kernel
theorem d_M_feed_6 : decode k_M_feed 6 = .ok (.getfield 66, 3) := by decide +kernel
theorem d_M_feed_9 : decode k_M_feed 9 = .ok (.bipush 20, 2) := by decide +kernel
theorem d_M_feed_11 : decode k_M_feed 11 = .ok (.iadd, 1) := by decide +kernel
theorem d_M_feed_12 : decode k_M_feed 12 = .ok (.ldc 16, 2) := by decide +kernel
theorem d_M_feed_14 : decode k_M_feed 14 = .ok (.if_icmp .le 9, 3) := by decide +kernel
theorem d_M_feed_17 : decode k_M_feed 17 = .ok (.aload_n 0, 1) := by decide +kernel
theorem d_M_feed_18 : decode k_M_feed 18 = .ok (.iconst 1, 1) := by decide +kernel
theorem d_M_feed_19 : decode k_M_feed 19 = .ok (.invokevirtual 69, 3) := by decide +kernel
theorem d_M_feed_22 : decode k_M_feed 22 = .ok (.ireturn, 1) := by decide +kernel
theorem d_M_feed_23 : decode k_M_feed 23 = .ok (.iconst 0, 1) := by decide +kernel
theorem d_M_feed_24 : decode k_M_feed 24 = .ok (.istore 6, 2) := by decide +kernel
theorem d_M_feed_26 : decode k_M_feed 26 = .ok (.iload 6, 2) := by decide +kernel
theorem d_M_feed_28 : decode k_M_feed 28 = .ok (.bipush 20, 2) := by decide +kernel
theorem d_M_feed_30 : decode k_M_feed 30 = .ok (.if_icmp .ge 86, 3) := by decide +kernel
theorem d_M_feed_33 : decode k_M_feed 33 = .ok (.iload 6, 2) := by decide +kernel
theorem d_M_feed_35 : decode k_M_feed 35 = .ok (.iconst 4, 1) := by decide +kernel
theorem d_M_feed_36 : decode k_M_feed 36 = .ok (.if_icmp .ge 7, 3) := by decide +kernel
theorem d_M_feed_39 : decode k_M_feed 39 = .ok (.iload_n 1, 1) := by decide +kernel
theorem d_M_feed_40 : decode k_M_feed 40 = .ok (.goto 39, 3) := by decide +kernel
theorem d_M_feed_43 : decode k_M_feed 43 = .ok (.iload 6, 2) := by decide +kernel
theorem d_M_feed_45 : decode k_M_feed 45 = .ok (.bipush 8, 2) := by decide +kernel
theorem d_M_feed_47 : decode k_M_feed 47 = .ok (.if_icmp .ge 7, 3) := by decide +kernel
theorem d_M_feed_50 : decode k_M_feed 50 = .ok (.iload_n 2, 1) := by decide +kernel
theorem d_M_feed_51 : decode k_M_feed 51 = .ok (.goto 28, 3) := by decide +kernel
theorem d_M_feed_54 : decode k_M_feed 54 = .ok (.iload 6, 2) := by decide +kernel
theorem d_M_feed_56 : decode k_M_feed 56 = .ok (.bipush 12, 2) := by decide +kernel
theorem d_M_feed_58 : decode k_M_feed 58 = .ok (.if_icmp .ge 7, 3) := by decide +kernel
theorem d_M_feed_61 : decode k_M_feed 61 = .ok (.iload_n 3, 1) := by decide +kernel
theorem d_M_feed_62 : decode k_M_feed 62 = .ok (.goto 17, 3) := by decide +kernel
theorem d_M_feed_65 : decode k_M_feed 65 = .ok (.iload 6, 2) := by decide +kernel
theorem d_M_feed_67 : decode k_M_feed 67 = .ok (.bipush 16, 2) := by decide +kernel
theorem d_M_feed_69 : decode k_M_feed 69 = .ok (.if_icmp .ge 8, 3) := by decide +kernel
theorem d_M_feed_72 : decode k_M_feed 72 = .ok (.iload 4, 2) := by decide +kernel
theorem d_M_feed_74 : decode k_M_feed 74 = .ok (.goto 5, 3) := by decide +kernel
theorem d_M_feed_77 : decode k_M_feed 77 = .ok (.iload 5, 2) := by decide +kernel
theorem d_M_feed_79 : decode k_M_feed 79 = .ok (.istore 7, 2) := by decide +kernel
theorem d_M_feed_81 : decode k_M_feed 81 = .ok (.aload_n 0, 1) := by decide +kernel
theorem d_M_feed_82 : decode k_M_feed 82 = .ok (.getfield 17, 3) := by decide +kernel
theorem d_M_feed_85 : decode k_M_feed 85 = .ok (.aload_n 0, 1) := by decide +kernel
theorem d_M_feed_86 : decode k_M_feed 86 = .ok (.getfield 66, 3) := by decide +kernel
theorem d_M_feed_89 : decode k_M_feed 89 = .ok (.iload 6, 2) := by decide +kernel
theorem d_M_feed_91 : decode k_M_feed 91 = .ok (.iadd, 1) := by decide +kernel
theorem d_M_feed_92 : decode k_M_feed 92 = .ok (.iload 7, 2) := by decide +kernel
theorem d_M_feed_94 : decode k_M_feed 94 = .ok (.bipush 24, 2) := by decide +kernel
theorem d_M_feed_96 : decode k_M_feed 96 = .ok (.bipush 8, 2) := by decide +kernel
theorem d_M_feed_98 : decode k_M_feed 98 = .ok (.iload 6, 2) := by decide +kernel
theorem d_M_feed_100 : decode k_M_feed 100 = .ok (.iconst 4, 1) := by decide +kernel
theorem d_M_feed_101 : decode k_M_feed 101 = .ok (.irem, 1) := by decide +kernel
theorem d_M_feed_102 : decode k_M_feed 102 = .ok (.imul, 1) := by decide +kernel
theorem d_M_feed_103 : decode k_M_feed 103 = .ok (.isub, 1) := by decide +kernel
theorem d_M_feed_104 : decode k_M_feed 104 = .ok (.ishr, 1) := by decide +kernel
theorem d_M_feed_105 : decode k_M_feed 105 = .ok (.sipush 255, 3) := by decide +kernel
theorem d_M_feed_108 : decode k_M_feed 108 = .ok (.iand, 1) := by decide +kernel
theorem d_M_feed_109 : decode k_M_feed 109 = .ok (.iastore, 1) := by decide +kernel
theorem d_M_feed_110 : decode k_M_feed 110 = .ok (.iinc 6 1, 3) := by decide +kernel
theorem d_M_feed_113 : decode k_M_feed 113 = .ok (.goto (-87), 3) := by decide +kernel
theorem d_M_feed_116 : decode k_M_feed 116 = .ok (.aload_n 0, 1) := by decide +kernel
theorem d_M_feed_117 : decode k_M_feed 117 = .ok (.dup, 1) := by decide +kernel
theorem d_M_feed_118 : decode k_M_feed 118 = .ok (.getfield 66, 3) := by decide +kernel
theorem d_M_feed_121 : decode k_M_feed 121 = .ok (.bipush 20, 2) := by decide +kernel
theorem d_M_feed_123 : decode k_M_feed 123 = .ok (.iadd, 1) := by decide +kernel
theorem d_M_feed_124 : decode k_M_feed 124 = .ok (.putfield 66, 3) := by decide +kernel
theorem d_M_feed_127 : decode k_M_feed 127 = .ok (.aload_n 0, 1) := by decide +kernel
theorem d_M_feed_128 : decode k_M_feed 128 = .ok (.getfield 66, 3) := by decide +kernel
theorem d_M_feed_131 : decode k_M_feed 131 = .ok (.ireturn, 1) := by decide +kernel
theorem d_M_end_0 : decode k_M_end 0 = .ok (.aload_n 0, 1) := by decide +kernel
theorem d_M_end_1 : decode k_M_end 1 = .ok (.iconst 0, 1) := by decide +kernel
theorem d_M_end_2 : decode k_M_end 2 = .ok (.putfield 59, 3) := by decide +kernel
theorem d_M_end_5 : decode k_M_end 5 = .ok (.iload_n 1, 1) := by decide +kernel
theorem d_M_end_6 : decode k_M_end 6 = .ok (.iconst 0, 1) := by decide +kernel
theorem d_M_end_7 : decode k_M_end 7 = .ok (.bipush 20, 2) := by decide +kernel
theorem d_M_end_9 : decode k_M_end 9 = .ok (.invokestatic 62, 3) := by decide +kernel
theorem d_M_end_12 : decode k_M_end 12 = .ok (.ifCond .ne 9, 3) := by decide +kernel
theorem d_M_end_15 : decode k_M_end 15 = .ok (.aload_n 0, 1) := by decide +kernel
theorem d_M_end_16 : decode k_M_end 16 = .ok (.iconst 1, 1) := by decide +kernel
theorem d_M_end_17 : decode k_M_end 17 = .ok (.invokevirtual 69, 3) := by decide +kernel
theorem d_M_end_20 : decode k_M_end 20 = .ok (.ireturn, 1) := by decide +kernel
theorem d_M_end_21 : decode k_M_end 21 = .ok (.aload_n 0, 1) := by decide +kernel
theorem d_M_end_22 : decode k_M_end 22 = .ok (.getfield 66, 3) := by decide +kernel
theorem d_M_end_25 : decode k_M_end 25 = .ok (.bipush 20, 2) := by decide +kernel
theorem d_M_end_27 : decode k_M_end 27 = .ok (.if_icmp .ge 9, 3) := by decide +kernel
theorem d_M_end_30 : decode k_M_end 30 = .ok (.aload_n 0, 1) := by decide +kernel
theorem d_M_end_31 : decode k_M_end 31 = .ok (.iconst 2, 1) := by decide +kernel
theorem d_M_end_32 : decode k_M_end 32 = .ok (.invokevirtual 69, 3) := by decide +kernel
theorem d_M_end_35 : decode k_M_end 35 = .ok (.ireturn, 1) := by decide +kernel
theorem d_M_end_36 : decode k_M_end 36 = .ok (.aload_n 0, 1) := by decide +kernel
theorem d_M_end_37 : decode k_M_end 37 = .ok (.dup, 1) := by decide +kernel
theorem d_M_end_38 : decode k_M_end 38 = .ok (.getfield 66, 3) := by decide +kernel
theorem d_M_end_41 : decode k_M_end 41 = .ok (.bipush 20, 2) := by decide +kernel
theorem d_M_end_43 : decode k_M_end 43 = .ok (.iload_n 1, 1) := by decide +kernel
theorem d_M_end_44 : decode k_M_end 44 = .ok (.isub, 1) := by decide +kernel
theorem d_M_end_45 : decode k_M_end 45 = .ok (.isub, 1) := by decide +kernel
theorem d_M_end_46 : decode k_M_end 46 = .ok (.putfield 66, 3) := by decide +kernel
theorem d_M_end_49 : decode k_M_end 49 = .ok (.aload_n 0, 1) := by decide +kernel
theorem d_M_end_50 : decode k_M_end 50 = .ok (.getfield 66, 3) := by decide +kernel
theorem d_M_end_53 : decode k_M_end 53 = .ok (.ireturn, 1) := by decide +kernel
theorem d_M_isBlank_0 : decode k_M_isBlank 0 = .ok (.iload_n 0, 1) := by decide +kernel
theorem d_M_isBlank_1 : decode k_M_isBlank 1 = .ok (.bipush 32, 2) := by decide +kernel
theorem d_M_isBlank_3 : decode k_M_isBlank 3 = .ok (.if_icmp .eq 21, 3) := by decide +kernel
theorem d_M_isBlank_6 : decode k_M_isBlank 6 = .ok (.iload_n 0, 1) := by decide +kernel
theorem d_M_isBlank_7 : decode k_M_isBlank 7 = .ok (.bipush 9, 2) := by decide +kernel
theorem d_M_isBlank_9 : decode k_M_isBlank 9 = .ok (.if_icmp .eq 15, 3) := by decide +kernel
theorem d_M_isBlank_12 : decode k_M_isBlank 12 = .ok (.iload_n 0, 1) := by decide +kernel
theorem d_M_isBlank_13 : decode k_M_isBlank 13 = .ok (.bipush 10, 2) := by decide +kernel
theorem d_M_isBlank_15 : decode k_M_isBlank 15 = .ok (.if_icmp .eq 9, 3) := by decide +kernel
theorem d_M_isBlank_18 : decode k_M_isBlank 18 = .ok (.iload_n 0, 1) := by decide +kernel
theorem d_M_isBlank_19 : decode k_M_isBlank 19 = .ok (.bipush 13, 2) := by decide +kernel
theorem d_M_isBlank_21 : decode k_M_isBlank 21 = .ok (.if_icmp .ne 7, 3) := by decide +kernel
theorem d_M_isBlank_24 : decode k_M_isBlank 24 = .ok (.iconst 1, 1) := by decide +kernel
theorem d_M_isBlank_25 : decode k_M_isBlank 25 = .ok (.goto 4, 3) := by decide +kernel
theorem d_M_isBlank_28 : decode k_M_isBlank 28 = .ok (.iconst 0, 1) := by decide +kernel
theorem d_M_isBlank_29 : decode k_M_isBlank 29 = .ok (.ireturn, 1) := by decide +kernel
theorem d_M_isLetter_0 : decode k_M_isLetter 0 = .ok (.iload_n 0, 1) := by decide +kernel
theorem d_M_isLetter_1 : decode k_M_isLetter 1 = .ok (.bipush 65, 2) := by decide +kernel
theorem d_M_isLetter_3 : decode k_M_isLetter 3 = .ok (.bipush 90, 2) := by decide +kernel
theorem d_M_isLetter_5 : decode k_M_isLetter 5 = .ok (.invokestatic 62, 3) := by decide +kernel
theorem d_M_isLetter_8 : decode k_M_isLetter 8 = .ok (.ifCond .ne 14, 3) := by decide +kernel
theorem d_M_isLetter_11 : decode k_M_isLetter 11 = .ok (.iload_n 0, 1) := by decide +kernel
theorem d_M_isLetter_12 : decode k_M_isLetter 12 = .ok (.bipush 97, 2) := by decide +kernel
theorem d_M_isLetter_14 : decode k_M_isLetter 14 = .ok (.bipush 122, 2) := by decide +kernel
theorem d_M_isLetter_16 : decode k_M_isLetter 16 = .ok (.invokestatic 62, 3) := by decide +kernel
theorem d_M_isLetter_19 : decode k_M_isLetter 19 = .ok (.ifCond .eq 7, 3) := by decide +kernel
theorem d_M_isLetter_22 : decode k_M_isLetter 22 = .ok (.iconst 1, 1) := by decide +kernel
theorem d_M_isLetter_23 : decode k_M_isLetter 23 = .ok (.goto 4, 3) := by decide +kernel
theorem d_M_isLetter_26 : decode k_M_isLetter 26 = .ok (.iconst 0, 1) := by decide +kernel
theorem d_M_isLetter_27 : decode k_M_isLetter 27 = .ok (.ireturn, 1) := by decide +kernel
theorem d_M_isDigit_0 : decode k_M_isDigit 0 = .ok (.iload_n 0, 1) := by decide +kernel
theorem d_M_isDigit_1 : decode k_M_isDigit 1 = .ok (.bipush 48, 2) := by decide +kernel
theorem d_M_isDigit_3 : decode k_M_isDigit 3 = .ok (.bipush 57, 2) := by decide +kernel
theorem d_M_isDigit_5 : decode k_M_isDigit 5 = .ok (.invokestatic 62, 3) := by decide +kernel
theorem d_M_isDigit_8 : decode k_M_isDigit 8 = .ok (.ireturn, 1) := by decide +kernel
theorem d_M_isSign_0 : decode k_M_isSign 0 = .ok (.iload_n 0, 1) := by decide +kernel
theorem d_M_isSign_1 : decode k_M_isSign 1 = .ok (.bipush 43, 2) := by decide +kernel
theorem d_M_isSign_3 : decode k_M_isSign 3 = .ok (.if_icmp .eq 9, 3) := by decide +kernel
theorem d_M_isSign_6 : decode k_M_isSign 6 = .ok (.iload_n 0, 1) := by decide +kernel
theorem d_M_isSign_7 : decode k_M_isSign 7 = .ok (.bipush 45, 2) := by decide +kernel
theorem d_M_isSign_9 : decode k_M_isSign 9 = .ok (.if_icmp .ne 7, 3) := by decide +kernel
theorem d_M_isSign_12 : decode k_M_isSign 12 = .ok (.iconst 1, 1) := by decide +kernel
theorem d_M_isSign_13 : decode k_M_isSign 13 = .ok (.goto 4, 3) := by decide +kernel
theorem d_M_isSign_16 : decode k_M_isSign 16 = .ok (.iconst 0, 1) := by decide +kernel
theorem d_M_isSign_17 : decode k_M_isSign 17 = .ok (.ireturn, 1) := by decide +kernel
theorem d_M_isKnown_0 : decode k_M_isKnown 0 = .ok (.iload_n 0, 1) := by decide +kernel
theorem d_M_isKnown_1 : decode k_M_isKnown 1 = .ok (.invokestatic 73, 3) := by decide +kernel
theorem d_M_isKnown_4 : decode k_M_isKnown 4 = .ok (.ifCond .ne 41, 3) := by decide +kernel
theorem d_M_isKnown_7 : decode k_M_isKnown 7 = .ok (.iload_n 0, 1) := by decide +kernel
theorem d_M_isKnown_8 : decode k_M_isKnown 8 = .ok (.invokestatic 77, 3) := by decide +kernel
theorem d_M_isKnown_11 : decode k_M_isKnown 11 = .ok (.ifCond .ne 34, 3) := by decide +kernel
theorem d_M_isKnown_14 : decode k_M_isKnown 14 = .ok (.iload_n 0, 1) := by decide +kernel
theorem d_M_isKnown_15 : decode k_M_isKnown 15 = .ok (.invokestatic 80, 3) := by decide +kernel
theorem d_M_isKnown_18 : decode k_M_isKnown 18 = .ok (.ifCond .ne 27, 3) := by decide +kernel
theorem d_M_isKnown_21 : decode k_M_isKnown 21 = .ok (.iload_n 0, 1) := by decide +kernel
theorem d_M_isKnown_22 : decode k_M_isKnown 22 = .ok (.bipush 46, 2) := by decide +kernel
theorem d_M_isKnown_24 : decode k_M_isKnown 24 = .ok (.if_icmp .eq 21, 3) := by decide +kernel
theorem d_M_isKnown_27 : decode k_M_isKnown 27 = .ok (.iload_n 0, 1) := by decide +kernel
theorem d_M_isKnown_28 : decode k_M_isKnown 28 = .ok (.bipush 40, 2) := by decide +kernel
theorem d_M_isKnown_30 : decode k_M_isKnown 30 = .ok (.if_icmp .eq 15, 3) := by decide +kernel
theorem d_M_isKnown_33 : decode k_M_isKnown 33 = .ok (.iload_n 0, 1) := by decide +kernel
theorem d_M_isKnown_34 : decode k_M_isKnown 34 = .ok (.bipush 41, 2) := by decide +kernel
theorem d_M_isKnown_36 : decode k_M_isKnown 36 = .ok (.if_icmp .eq 9, 3) := by decide +kernel
theorem d_M_isKnown_39 : decode k_M_isKnown 39 = .ok (.iload_n 0, 1) := by decide +kernel
theorem d_M_isKnown_40 : decode k_M_isKnown 40 = .ok (.bipush 44, 2) := by decide +kernel
theorem d_M_isKnown_42 : decode k_M_isKnown 42 = .ok (.if_icmp .ne 7, 3) := by decide +kernel
theorem d_M_isKnown_45 : decode k_M_isKnown 45 = .ok (.iconst 1, 1) := by decide +kernel
theorem d_M_isKnown_46 : decode k_M_isKnown 46 = .ok (.goto 4, 3) := by decide +kernel
theorem d_M_isKnown_49 : decode k_M_isKnown 49 = .ok (.iconst 0, 1) := by decide +kernel
theorem d_M_isKnown_50 : decode k_M_isKnown 50 = .ok (.ireturn, 1) := by decide +kernel
theorem d_M_here_0 : decode k_M_here 0 = .ok (.aload_n 0, 1) := by decide +kernel
theorem d_M_here_1 : decode k_M_here 1 = .ok (.getfield 83, 3) := by decide +kernel
theorem d_M_here_4 : decode k_M_here 4 = .ok (.aload_n 0, 1) := by decide +kernel
theorem d_M_here_5 : decode k_M_here 5 = .ok (.getfield 66, 3) := by decide +kernel
theorem d_M_here_8 : decode k_M_here 8 = .ok (.if_icmp .ge 15, 3) := by decide +kernel
theorem d_M_here_11 : decode k_M_here 11 = .ok (.aload_n 0, 1) := by decide +kernel
theorem d_M_here_12 : decode k_M_here 12 = .ok (.getfield 17, 3) := by decide +kernel
theorem d_M_here_15 : decode k_M_here 15 = .ok (.aload_n 0, 1) := by decide +kernel
theorem d_M_here_16 : decode k_M_here 16 = .ok (.getfield 83, 3) := by decide +kernel
theorem d_M_here_19 : decode k_M_here 19 = .ok (.iaload, 1) := by decide +kernel
theorem d_M_here_20 : decode k_M_here 20 = .ok (.goto 4, 3) := by decide +kernel
theorem d_M_here_23 : decode k_M_here 23 = .ok (.iconst (-1), 1) := by decide +kernel
theorem d_M_here_24 : decode k_M_here 24 = .ok (.ireturn, 1) := by decide +kernel
theorem d_M_pass_0 : decode k_M_pass 0 = .ok (.aload_n 0, 1) := by decide +kernel
theorem d_M_pass_1 : decode k_M_pass 1 = .ok (.getfield 83, 3) := by decide +kernel
theorem d_M_pass_4 : decode k_M_pass 4 = .ok (.aload_n 0, 1) := by decide +kernel
theorem d_M_pass_5 : decode k_M_pass 5 = .ok (.getfield 66, 3) := by decide +kernel
theorem d_M_pass_8 : decode k_M_pass 8 = .ok (.if_icmp .ge 31, 3) := by decide +kernel
theorem d_M_pass_11 : decode k_M_pass 11 = .ok (.aload_n 0, 1) := by decide +kernel
theorem d_M_pass_12 : decode k_M_pass 12 = .ok (.getfield 17, 3) := by decide +kernel
theorem d_M_pass_15 : decode k_M_pass 15 = .ok (.aload_n 0, 1) := by decide +kernel
theorem d_M_pass_16 : decode k_M_pass 16 = .ok (.getfield 83, 3) := by decide +kernel
theorem d_M_pass_19 : decode k_M_pass 19 = .ok (.iaload, 1) := by decide +kernel
theorem d_M_pass_20 : decode k_M_pass 20 = .ok (.invokestatic 86, 3) := by decide +kernel
theorem d_M_pass_23 : decode k_M_pass 23 = .ok (.ifCond .eq 16, 3) := by decide +kernel
theorem d_M_pass_26 : decode k_M_pass 26 = .ok (.aload_n 0, 1) := by decide +kernel
theorem d_M_pass_27 : decode k_M_pass 27 = .ok (.dup, 1) := by decide +kernel
theorem d_M_pass_28 : decode k_M_pass 28 = .ok (.getfield 83, 3) := by decide +kernel
theorem d_M_pass_31 : decode k_M_pass 31 = .ok (.iconst 1, 1) := by decide +kernel
theorem d_M_pass_32 : decode k_M_pass 32 = .ok (.iadd, 1) := by decide +kernel
theorem d_M_pass_33 : decode k_M_pass 33 = .ok (.putfield 83, 3) := by decide +kernel
theorem d_M_pass_36 : decode k_M_pass 36 = .ok (.goto (-36), 3) := by decide +kernel
theorem d_M_pass_39 : decode k_M_pass 39 = .ok (.return_, 1) := by decide +kernel
theorem d_M_wrong_0 : decode k_M_wrong 0 = .ok (.aload_n 0, 1) := by decide +kernel
theorem d_M_wrong_1 : decode k_M_wrong 1 = .ok (.iload_n 1, 1) := by decide +kernel
theorem d_M_wrong_2 : decode k_M_wrong 2 = .ok (.putfield 89, 3) := by decide +kernel
theorem d_M_wrong_5 : decode k_M_wrong 5 = .ok (.aload_n 0, 1) := by decide +kernel
theorem d_M_wrong_6 : decode k_M_wrong 6 = .ok (.iload_n 2, 1) := by decide +kernel
theorem d_M_wrong_7 : decode k_M_wrong 7 = .ok (.putfield 92, 3) := by decide +kernel
theorem d_M_wrong_10 : decode k_M_wrong 10 = .ok (.iconst 0, 1) := by decide +kernel
theorem d_M_wrong_11 : decode k_M_wrong 11 = .ok (.ireturn, 1) := by decide +kernel
theorem d_M_unexpected_0 : decode k_M_unexpected 0 = .ok (.aload_n 0, 1) := by decide +kernel
theorem d_M_unexpected_1 : decode k_M_unexpected 1 = .ok (.aload_n 0, 1) := by decide +kernel
theorem d_M_unexpected_2 : decode k_M_unexpected 2 = .ok (.invokevirtual 95, 3) := by decide +kernel
theorem d_M_unexpected_5 : decode k_M_unexpected 5 = .ok (.iconst (-1), 1) := by decide +kernel
theorem d_M_unexpected_6 : decode k_M_unexpected 6 = .ok (.if_icmp .eq 13, 3) := by decide +kernel
theorem d_M_unexpected_9 : decode k_M_unexpected 9 = .ok (.aload_n 0, 1) := by decide +kernel
theorem d_M_unexpected_10 : decode k_M_unexpected 10 = .ok (.invokevirtual 95, 3) := by decide +kernel
theorem d_M_unexpected_13 : decode k_M_unexpected 13 = .ok (.invokestatic 99, 3) := by decide +kernel
theorem d_M_unexpected_16 : decode k_M_unexpected 16 = .ok (.ifCond .eq 7, 3) := by decide +kernel
theorem d_M_unexpected_19 : decode k_M_unexpected 19 = .ok (.iconst 3, 1) := by decide +kernel
theorem d_M_unexpected_20 : decode k_M_unexpected 20 = .ok (.goto 4, 3) := by decide +kernel
theorem d_M_unexpected_23 : decode k_M_unexpected 23 = .ok (.iconst 1, 1) := by decide +kernel
theorem d_M_unexpected_24 : decode k_M_unexpected 24 = .ok (.aload_n 0, 1) := by decide +kernel
theorem d_M_unexpected_25 : decode k_M_unexpected 25 = .ok (.getfield 83, 3) := by decide +kernel
theorem d_M_unexpected_28 : decode k_M_unexpected 28 = .ok (.invokevirtual 102, 3) := by decide +kernel
theorem d_M_unexpected_31 : decode k_M_unexpected 31 = .ok (.ireturn, 1) := by decide +kernel
theorem d_M_word_0 : decode k_M_word 0 = .ok (.aload_n 0, 1) := by decide +kernel
theorem d_M_word_1 : decode k_M_word 1 = .ok (.getfield 83, 3) := by decide +kernel
theorem d_M_word_4 : decode k_M_word 4 = .ok (.istore_n 1, 1) := by decide +kernel
theorem d_M_word_5 : decode k_M_word 5 = .ok (.aload_n 0, 1) := by decide +kernel
theorem d_M_word_6 : decode k_M_word 6 = .ok (.invokevirtual 95, 3) := by decide +kernel
theorem d_M_word_9 : decode k_M_word 9 = .ok (.invokestatic 73, 3) := by decide +kernel
theorem d_M_word_12 : decode k_M_word 12 = .ok (.ifCond .eq 16, 3) := by decide +kernel
theorem d_M_word_15 : decode k_M_word 15 = .ok (.aload_n 0, 1) := by decide +kernel
theorem d_M_word_16 : decode k_M_word 16 = .ok (.dup, 1) := by decide +kernel
theorem d_M_word_17 : decode k_M_word 17 = .ok (.getfield 83, 3) := by decide +kernel
theorem d_M_word_20 : decode k_M_word 20 = .ok (.iconst 1, 1) := by decide +kernel
theorem d_M_word_21 : decode k_M_word 21 = .ok (.iadd, 1) := by decide +kernel
theorem d_M_word_22 : decode k_M_word 22 = .ok (.putfield 83, 3) := by decide +kernel
theorem d_M_word_25 : decode k_M_word 25 = .ok (.goto (-20), 3) := by decide +kernel
theorem d_M_word_28 : decode k_M_word 28 = .ok (.iconst 0, 1) := by decide +kernel
theorem d_M_word_29 : decode k_M_word 29 = .ok (.istore_n 2, 1) := by decide +kernel
theorem d_M_word_30 : decode k_M_word 30 = .ok (.iconst 1, 1) := by decide +kernel
theorem d_M_word_31 : decode k_M_word 31 = .ok (.istore_n 3, 1) := by decide +kernel
theorem d_M_word_32 : decode k_M_word 32 = .ok (.iload_n 3, 1) := by decide +kernel
theorem d_M_word_33 : decode k_M_word 33 = .ok (.bipush 8, 2) := by decide +kernel
theorem d_M_word_35 : decode k_M_word 35 = .ok (.if_icmp .gt 112, 3) := by decide +kernel
theorem d_M_word_38 : decode k_M_word 38 = .ok (.aload_n 0, 1) := by decide +kernel
theorem d_M_word_39 : decode k_M_word 39 = .ok (.getfield 13, 3) := by decide +kernel
theorem d_M_word_42 : decode k_M_word 42 = .ok (.iload_n 3, 1) := by decide +kernel
theorem d_M_word_43 : decode k_M_word 43 = .ok (.iconst 1, 1) := by decide +kernel
theorem d_M_word_44 : decode k_M_word 44 = .ok (.iadd, 1) := by decide +kernel
theorem d_M_word_45 : decode k_M_word 45 = .ok (.iaload, 1) := by decide +kernel
theorem d_M_word_46 : decode k_M_word 46 = .ok (.aload_n 0, 1) := by decide +kernel
theorem d_M_word_47 : decode k_M_word 47 = .ok (.getfield 13, 3) := by decide +kernel
theorem d_M_word_50 : decode k_M_word 50 = .ok (.iload_n 3, 1) := by decide +kernel
theorem d_M_word_51 : decode k_M_word 51 = .ok (.iaload, 1) := by decide +kernel
theorem d_M_word_52 : decode k_M_word 52 = .ok (.isub, 1) := by decide +kernel
theorem d_M_word_53 : decode k_M_word 53 = .ok (.istore 4, 2) := by decide +kernel
theorem d_M_word_55 : decode k_M_word 55 = .ok (.iload 4, 2) := by decide +kernel
theorem d_M_word_57 : decode k_M_word 57 = .ok (.aload_n 0, 1) := by decide +kernel
theorem d_M_word_58 : decode k_M_word 58 = .ok (.getfield 83, 3) := by decide +kernel
theorem d_M_word_61 : decode k_M_word 61 = .ok (.iload_n 1, 1) := by decide +kernel
theorem d_M_word_62 : decode k_M_word 62 = .ok (.isub, 1) := by decide +kernel
theorem d_M_word_63 : decode k_M_word 63 = .ok (.if_icmp .ne 7, 3) := by decide +kernel
theorem d_M_word_66 : decode k_M_word 66 = .ok (.iconst 1, 1) := by decide +kernel
theorem d_M_word_67 : decode k_M_word 67 = .ok (.goto 4, 3) := by decide +kernel
theorem d_M_word_70 : decode k_M_word 70 = .ok (.iconst 0, 1) := by decide +kernel
theorem d_M_word_71 : decode k_M_word 71 = .ok (.istore 5, 2) := by decide +kernel
theorem d_M_word_73 : decode k_M_word 73 = .ok (.iconst 0, 1) := by decide +kernel
theorem d_M_word_74 : decode k_M_word 74 = .ok (.istore 6, 2) := by decide +kernel
theorem d_M_word_76 : decode k_M_word 76 = .ok (.iload 6, 2) := by decide +kernel
theorem d_M_word_78 : decode k_M_word 78 = .ok (.iload 4, 2) := by decide +kernel
theorem d_M_word_80 : decode k_M_word 80 = .ok (.if_icmp .ge 50, 3) := by decide +kernel
theorem d_M_word_83 : decode k_M_word 83 = .ok (.iload 5, 2) := by decide +kernel
theorem d_M_word_85 : decode k_M_word 85 = .ok (.ifCond .eq 45, 3) := by decide +kernel
theorem d_M_word_88 : decode k_M_word 88 = .ok (.aload_n 0, 1) := by decide +kernel
theorem d_M_word_89 : decode k_M_word 89 = .ok (.getfield 17, 3) := by decide +kernel
theorem d_M_word_92 : decode k_M_word 92 = .ok (.iload_n 1, 1) := by decide +kernel
theorem d_M_word_93 : decode k_M_word 93 = .ok (.iload 6, 2) := by decide +kernel
theorem d_M_word_95 : decode k_M_word 95 = .ok (.iadd, 1) := by decide +kernel
theorem d_M_word_96 : decode k_M_word 96 = .ok (.iaload, 1) := by decide +kernel
theorem d_M_word_97 : decode k_M_word 97 = .ok (.bipush 95, 2) := by decide +kernel
theorem d_M_word_99 : decode k_M_word 99 = .ok (.iand, 1) := by decide +kernel
theorem d_M_word_100 : decode k_M_word 100 = .ok (.aload_n 0, 1) := by decide +kernel
theorem d_M_word_101 : decode k_M_word 101 = .ok (.getfield 7, 3) := by decide +kernel
theorem d_M_word_104 : decode k_M_word 104 = .ok (.aload_n 0, 1) := by decide +kernel
theorem d_M_word_105 : decode k_M_word 105 = .ok (.getfield 13, 3) := by decide +kernel
theorem d_M_word_108 : decode k_M_word 108 = .ok (.iload_n 3, 1) := by decide +kernel
theorem d_M_word_109 : decode k_M_word 109 = .ok (.iaload, 1) := by decide +kernel
theorem d_M_word_110 : decode k_M_word 110 = .ok (.iload 6, 2) := by decide +kernel
theorem d_M_word_112 : decode k_M_word 112 = .ok (.iadd, 1) := by decide +kernel
theorem d_M_word_113 : decode k_M_word 113 = .ok (.iaload, 1) := by decide +kernel
theorem d_M_word_114 : decode k_M_word 114 = .ok (.if_icmp .ne 7, 3) := by decide +kernel
theorem d_M_word_117 : decode k_M_word 117 = .ok (.iconst 1, 1) := by decide +kernel
theorem d_M_word_118 : decode k_M_word 118 = .ok (.goto 4, 3) := by decide +kernel
theorem d_M_word_121 : decode k_M_word 121 = .ok (.iconst 0, 1) := by decide +kernel
theorem d_M_word_122 : decode k_M_word 122 = .ok (.istore 5, 2) := by decide +kernel
theorem d_M_word_124 : decode k_M_word 124 = .ok (.iinc 6 1, 3) := by decide +kernel
theorem d_M_word_127 : decode k_M_word 127 = .ok (.goto (-51), 3) := by decide +kernel
theorem d_M_word_130 : decode k_M_word 130 = .ok (.iload 5, 2) := by decide +kernel
theorem d_M_word_132 : decode k_M_word 132 = .ok (.ifCond .eq 7, 3) := by decide +kernel
theorem d_M_word_135 : decode k_M_word 135 = .ok (.iload_n 3, 1) := by decide +kernel
theorem d_M_word_136 : decode k_M_word 136 = .ok (.goto 4, 3) := by decide +kernel
theorem d_M_word_139 : decode k_M_word 139 = .ok (.iload_n 2, 1) := by decide +kernel
theorem d_M_word_140 : decode k_M_word 140 = .ok (.istore_n 2, 1) := by decide +kernel
theorem d_M_word_141 : decode k_M_word 141 = .ok (.iinc 3 1, 3) := by decide +kernel
theorem d_M_word_144 : decode k_M_word 144 = .ok (.goto (-112), 3) := by decide +kernel
theorem d_M_word_147 : decode k_M_word 147 = .ok (.iload_n 2, 1) := by decide +kernel
theorem d_M_word_148 : decode k_M_word 148 = .ok (.ireturn, 1) := by decide +kernel
theorem d_M_must_0 : decode k_M_must 0 = .ok (.aload_n 0, 1) := by decide +kernel
theorem d_M_must_1 : decode k_M_must 1 = .ok (.invokevirtual 106, 3) := by decide +kernel
theorem d_M_must_4 : decode k_M_must 4 = .ok (.aload_n 0, 1) := by decide +kernel
theorem d_M_must_5 : decode k_M_must 5 = .ok (.invokevirtual 95, 3) := by decide +kernel
theorem d_M_must_8 : decode k_M_must 8 = .ok (.iload_n 1, 1) := by decide +kernel
theorem d_M_must_9 : decode k_M_must 9 = .ok (.if_icmp .eq 8, 3) := by decide +kernel
theorem d_M_must_12 : decode k_M_must 12 = .ok (.aload_n 0, 1) := by decide +kernel
theorem d_M_must_13 : decode k_M_must 13 = .ok (.invokevirtual 109, 3) := by decide +kernel
theorem d_M_must_16 : decode k_M_must 16 = .ok (.ireturn, 1) := by decide +kernel
theorem d_M_must_17 : decode k_M_must 17 = .ok (.aload_n 0, 1) := by decide +kernel
theorem d_M_must_18 : decode k_M_must 18 = .ok (.dup, 1) := by decide +kernel
theorem d_M_must_19 : decode k_M_must 19 = .ok (.getfield 83, 3) := by decide +kernel
theorem d_M_must_22 : decode k_M_must 22 = .ok (.iconst 1, 1) := by decide +kernel
theorem d_M_must_23 : decode k_M_must 23 = .ok (.iadd, 1) := by decide +kernel
theorem d_M_must_24 : decode k_M_must 24 = .ok (.putfield 83, 3) := by decide +kernel
theorem d_M_must_27 : decode k_M_must 27 = .ok (.iconst 1, 1) := by decide +kernel
theorem d_M_must_28 : decode k_M_must 28 = .ok (.ireturn, 1) := by decide +kernel
theorem d_M_goesOn_0 : decode k_M_goesOn 0 = .ok (.aload_n 0, 1) := by decide +kernel
theorem d_M_goesOn_1 : decode k_M_goesOn 1 = .ok (.invokevirtual 106, 3) := by decide +kernel
theorem d_M_goesOn_4 : decode k_M_goesOn 4 = .ok (.aload_n 0, 1) := by decide +kernel
theorem d_M_goesOn_5 : decode k_M_goesOn 5 = .ok (.invokevirtual 95, 3) := by decide +kernel
theorem d_M_goesOn_8 : decode k_M_goesOn 8 = .ok (.bipush 44, 2) := by decide +kernel
theorem d_M_goesOn_10 : decode k_M_goesOn 10 = .ok (.if_icmp .eq 19, 3) := by decide +kernel
theorem d_M_goesOn_13 : decode k_M_goesOn 13 = .ok (.aload_n 0, 1) := by decide +kernel
theorem d_M_goesOn_14 : decode k_M_goesOn 14 = .ok (.invokevirtual 95, 3) := by decide +kernel
theorem d_M_goesOn_17 : decode k_M_goesOn 17 = .ok (.bipush 41, 2) := by decide +kernel
theorem d_M_goesOn_19 : decode k_M_goesOn 19 = .ok (.if_icmp .eq 10, 3) := by decide +kernel
theorem d_M_goesOn_22 : decode k_M_goesOn 22 = .ok (.aload_n 0, 1) := by decide +kernel
theorem d_M_goesOn_23 : decode k_M_goesOn 23 = .ok (.invokevirtual 109, 3) := by decide +kernel
theorem d_M_goesOn_26 : decode k_M_goesOn 26 = .ok (.pop, 1) := by decide +kernel
theorem d_M_goesOn_27 : decode k_M_goesOn 27 = .ok (.iconst (-1), 1) := by decide +kernel
theorem d_M_goesOn_28 : decode k_M_goesOn 28 = .ok (.ireturn, 1) := by decide +kernel
theorem d_M_goesOn_29 : decode k_M_goesOn 29 = .ok (.aload_n 0, 1) := by decide +kernel
theorem d_M_goesOn_30 : decode k_M_goesOn 30 = .ok (.dup, 1) := by decide +kernel
theorem d_M_goesOn_31 : decode k_M_goesOn 31 = .ok (.getfield 83, 3) := by decide +kernel
theorem d_M_goesOn_34 : decode k_M_goesOn 34 = .ok (.iconst 1, 1) := by decide +kernel
theorem d_M_goesOn_35 : decode k_M_goesOn 35 = .ok (.iadd, 1) := by decide +kernel
theorem d_M_goesOn_36 : decode k_M_goesOn 36 = .ok (.putfield 83, 3) := by decide +kernel
theorem d_M_goesOn_39 : decode k_M_goesOn 39 = .ok (.aload_n 0, 1) := by decide +kernel
theorem d_M_goesOn_40 : decode k_M_goesOn 40 = .ok (.getfield 17, 3) := by decide +kernel
theorem d_M_goesOn_43 : decode k_M_goesOn 43 = .ok (.aload_n 0, 1) := by decide +kernel
theorem d_M_goesOn_44 : decode k_M_goesOn 44 = .ok (.getfield 83, 3) := by decide +kernel
theorem d_M_goesOn_47 : decode k_M_goesOn 47 = .ok (.iconst 1, 1) := by decide +kernel
theorem d_M_goesOn_48 : decode k_M_goesOn 48 = .ok (.isub, 1) := by decide +kernel
theorem d_M_goesOn_49 : decode k_M_goesOn 49 = .ok (.iaload, 1) := by decide +kernel
theorem d_M_goesOn_50 : decode k_M_goesOn 50 = .ok (.bipush 44, 2) := by decide +kernel
theorem d_M_goesOn_52 : decode k_M_goesOn 52 = .ok (.if_icmp .ne 7, 3) := by decide +kernel
theorem d_M_goesOn_55 : decode k_M_goesOn 55 = .ok (.iconst 1, 1) := by decide +kernel
theorem d_M_goesOn_56 : decode k_M_goesOn 56 = .ok (.goto 4, 3) := by decide +kernel
theorem d_M_goesOn_59 : decode k_M_goesOn 59 = .ok (.iconst 0, 1) := by decide +kernel
theorem d_M_goesOn_60 : decode k_M_goesOn 60 = .ok (.ireturn, 1) := by decide +kernel
theorem d_M_digitsFrom_0 : decode k_M_digitsFrom 0 = .ok (.iconst 0, 1) := by decide +kernel
theorem d_M_digitsFrom_1 : decode k_M_digitsFrom 1 = .ok (.istore_n 1, 1) := by decide +kernel
theorem d_M_digitsFrom_2 : decode k_M_digitsFrom 2 = .ok (.aload_n 0, 1) := by decide +kernel
theorem d_M_digitsFrom_3 : decode k_M_digitsFrom 3 = .ok (.invokevirtual 95, 3) := by decide +kernel
theorem d_M_digitsFrom_6 : decode k_M_digitsFrom 6 = .ok (.invokestatic 77, 3) := by decide +kernel
theorem d_M_digitsFrom_9 : decode k_M_digitsFrom 9 = .ok (.ifCond .eq 19, 3) := by decide +kernel
theorem d_M_digitsFrom_12 : decode k_M_digitsFrom 12 = .ok (.aload_n 0, 1) := by decide +kernel
theorem d_M_digitsFrom_13 : decode k_M_digitsFrom 13 = .ok (.dup, 1) := by decide +kernel
theorem d_M_digitsFrom_14 : decode k_M_digitsFrom 14 = .ok (.getfield 83, 3) := by decide +kernel
theorem d_M_digitsFrom_17 : decode k_M_digitsFrom 17 = .ok (.iconst 1, 1) := by decide +kernel
theorem d_M_digitsFrom_18 : decode k_M_digitsFrom 18 = .ok (.iadd, 1) := by decide +kernel
theorem d_M_digitsFrom_19 : decode k_M_digitsFrom 19 = .ok (.putfield 83, 3) := by decide +kernel
theorem d_M_digitsFrom_22 : decode k_M_digitsFrom 22 = .ok (.iinc 1 1, 3) := by decide +kernel
theorem d_M_digitsFrom_25 : decode k_M_digitsFrom 25 = .ok (.goto (-23), 3) := by decide +kernel
theorem d_M_digitsFrom_28 : decode k_M_digitsFrom 28 = .ok (.iload_n 1, 1) := by decide +kernel
theorem d_M_digitsFrom_29 : decode k_M_digitsFrom 29 = .ok (.ireturn, 1) := by decide +kernel
theorem d_M_number_0 : decode k_M_number 0 = .ok (.aload_n 0, 1) := by decide +kernel
theorem d_M_number_1 : decode k_M_number 1 = .ok (.invokevirtual 106, 3) := by decide +kernel
theorem d_M_number_4 : decode k_M_number 4 = .ok (.aload_n 0, 1) := by decide +kernel
theorem d_M_number_5 : decode k_M_number 5 = .ok (.getfield 83, 3) := by decide +kernel
theorem d_M_number_8 : decode k_M_number 8 = .ok (.istore_n 1, 1) := by decide +kernel
theorem d_M_number_9 : decode k_M_number 9 = .ok (.aload_n 0, 1) := by decide +kernel
theorem d_M_number_10 : decode k_M_number 10 = .ok (.invokevirtual 95, 3) := by decide +kernel
theorem d_M_number_13 : decode k_M_number 13 = .ok (.invokestatic 80, 3) := by decide +kernel
theorem d_M_number_16 : decode k_M_number 16 = .ok (.ifCond .ne 27, 3) := by decide +kernel
theorem d_M_number_19 : decode k_M_number 19 = .ok (.aload_n 0, 1) := by decide +kernel
theorem d_M_number_20 : decode k_M_number 20 = .ok (.invokevirtual 95, 3) := by decide +kernel
theorem d_M_number_23 : decode k_M_number 23 = .ok (.invokestatic 77, 3) := by decide +kernel
theorem d_M_number_26 : decode k_M_number 26 = .ok (.ifCond .ne 17, 3) := by decide +kernel
theorem d_M_number_29 : decode k_M_number 29 = .ok (.aload_n 0, 1) := by decide +kernel
theorem d_M_number_30 : decode k_M_number 30 = .ok (.invokevirtual 95, 3) := by decide +kernel
theorem d_M_number_33 : decode k_M_number 33 = .ok (.bipush 46, 2) := by decide +kernel
theorem d_M_number_35 : decode k_M_number 35 = .ok (.if_icmp .eq 8, 3) := by decide +kernel
theorem d_M_number_38 : decode k_M_number 38 = .ok (.aload_n 0, 1) := by decide +kernel
theorem d_M_number_39 : decode k_M_number 39 = .ok (.invokevirtual 109, 3) := by decide +kernel
theorem d_M_number_42 : decode k_M_number 42 = .ok (.ireturn, 1) := by decide +kernel
theorem d_M_number_43 : decode k_M_number 43 = .ok (.aload_n 0, 1) := by decide +kernel
theorem d_M_number_44 : decode k_M_number 44 = .ok (.invokevirtual 95, 3) := by decide +kernel
theorem d_M_number_47 : decode k_M_number 47 = .ok (.bipush 45, 2) := by decide +kernel
theorem d_M_number_49 : decode k_M_number 49 = .ok (.if_icmp .ne 7, 3) := by decide +kernel
theorem d_M_number_52 : decode k_M_number 52 = .ok (.iconst 1, 1) := by decide +kernel
theorem d_M_number_53 : decode k_M_number 53 = .ok (.goto 4, 3) := by decide +kernel
theorem d_M_number_56 : decode k_M_number 56 = .ok (.iconst 0, 1) := by decide +kernel
theorem d_M_number_57 : decode k_M_number 57 = .ok (.istore_n 2, 1) := by decide +kernel
theorem d_M_number_58 : decode k_M_number 58 = .ok (.aload_n 0, 1) := by decide +kernel
theorem d_M_number_59 : decode k_M_number 59 = .ok (.invokevirtual 95, 3) := by decide +kernel
theorem d_M_number_62 : decode k_M_number 62 = .ok (.invokestatic 80, 3) := by decide +kernel
theorem d_M_number_65 : decode k_M_number 65 = .ok (.ifCond .eq 13, 3) := by decide +kernel
theorem d_M_number_68 : decode k_M_number 68 = .ok (.aload_n 0, 1) := by decide +kernel
theorem d_M_number_69 : decode k_M_number 69 = .ok (.dup, 1) := by decide +kernel
theorem d_M_number_70 : decode k_M_number 70 = .ok (.getfield 83, 3) := by decide +kernel
theorem d_M_number_73 : decode k_M_number 73 = .ok (.iconst 1, 1) := by decide +kernel
theorem d_M_number_74 : decode k_M_number 74 = .ok (.iadd, 1) := by decide +kernel
theorem d_M_number_75 : decode k_M_number 75 = .ok (.putfield 83, 3) := by decide +kernel
theorem d_M_number_78 : decode k_M_number 78 = .ok (.aload_n 0, 1) := by decide +kernel
theorem d_M_number_79 : decode k_M_number 79 = .ok (.getfield 83, 3) := by decide +kernel
theorem d_M_number_82 : decode k_M_number 82 = .ok (.istore_n 3, 1) := by decide +kernel
theorem d_M_number_83 : decode k_M_number 83 = .ok (.aload_n 0, 1) := by decide +kernel
theorem d_M_number_84 : decode k_M_number 84 = .ok (.invokevirtual 113, 3) := by decide +kernel
theorem d_M_number_87 : decode k_M_number 87 = .ok (.istore 4, 2) := by decide +kernel
theorem d_M_number_89 : decode k_M_number 89 = .ok (.iload 4, 2) := by decide +kernel
theorem d_M_number_91 : decode k_M_number 91 = .ok (.istore 5, 2) := by decide +kernel
theorem d_M_number_93 : decode k_M_number 93 = .ok (.aload_n 0, 1) := by decide +kernel
theorem d_M_number_94 : decode k_M_number 94 = .ok (.invokevirtual 95, 3) := by decide +kernel
theorem d_M_number_97 : decode k_M_number 97 = .ok (.bipush 46, 2) := by decide +kernel
theorem d_M_number_99 : decode k_M_number 99 = .ok (.if_icmp .ne 22, 3) := by decide +kernel
theorem d_M_number_102 : decode k_M_number 102 = .ok (.aload_n 0, 1) := by decide +kernel
theorem d_M_number_103 : decode k_M_number 103 = .ok (.dup, 1) := by decide +kernel
theorem d_M_number_104 : decode k_M_number 104 = .ok (.getfield 83, 3) := by decide +kernel
theorem d_M_number_107 : decode k_M_number 107 = .ok (.iconst 1, 1) := by decide +kernel
theorem d_M_number_108 : decode k_M_number 108 = .ok (.iadd, 1) := by decide +kernel
theorem d_M_number_109 : decode k_M_number 109 = .ok (.putfield 83, 3) := by decide +kernel
theorem d_M_number_112 : decode k_M_number 112 = .ok (.iload 5, 2) := by decide +kernel
theorem d_M_number_114 : decode k_M_number 114 = .ok (.aload_n 0, 1) := by decide +kernel
theorem d_M_number_115 : decode k_M_number 115 = .ok (.invokevirtual 113, 3) := by decide +kernel
theorem d_M_number_118 : decode k_M_number 118 = .ok (.iadd, 1) := by decide +kernel
theorem d_M_number_119 : decode k_M_number 119 = .ok (.istore 5, 2) := by decide +kernel
theorem d_M_number_121 : decode k_M_number 121 = .ok (.iload 5, 2) := by decide +kernel
theorem d_M_number_123 : decode k_M_number 123 = .ok (.ifCond .ne 10, 3) := by decide +kernel
theorem d_M_number_126 : decode k_M_number 126 = .ok (.aload_n 0, 1) := by decide +kernel
theorem d_M_number_127 : decode k_M_number 127 = .ok (.iconst 4, 1) := by decide +kernel
theorem d_M_number_128 : decode k_M_number 128 = .ok (.iload_n 1, 1) := by decide +kernel
theorem d_M_number_129 : decode k_M_number 129 = .ok (.invokevirtual 102, 3) := by decide +kernel
theorem d_M_number_132 : decode k_M_number 132 = .ok (.ireturn, 1) := by decide +kernel
theorem d_M_number_133 : decode k_M_number 133 = .ok (.aload_n 0, 1) := by decide +kernel
theorem d_M_number_134 : decode k_M_number 134 = .ok (.getfield 83, 3) := by decide +kernel
theorem d_M_number_137 : decode k_M_number 137 = .ok (.istore 6, 2) := by decide +kernel
theorem d_M_number_139 : decode k_M_number 139 = .ok (.lconst 0, 1) := by decide +kernel
theorem d_M_number_140 : decode k_M_number 140 = .ok (.lstore 7, 2) := by decide +kernel
theorem d_M_number_142 : decode k_M_number 142 = .ok (.aload_n 0, 1) := by decide +kernel
theorem d_M_number_143 : decode k_M_number 143 = .ok (.invokevirtual 95, 3) := by decide +kernel
theorem d_M_number_146 : decode k_M_number 146 = .ok (.bipush 69, 2) := by decide +kernel
theorem d_M_number_148 : decode k_M_number 148 = .ok (.if_icmp .eq 12, 3) := by decide +kernel
theorem d_M_number_151 : decode k_M_number 151 = .ok (.aload_n 0, 1) := by decide +kernel
theorem d_M_number_152 : decode k_M_number 152 = .ok (.invokevirtual 95, 3) := by decide +kernel
theorem d_M_number_155 : decode k_M_number 155 = .ok (.bipush 101, 2) := by decide +kernel
theorem d_M_number_157 : decode k_M_number 157 = .ok (.if_icmp .ne 138, 3) := by decide +kernel
theorem d_M_number_160 : decode k_M_number 160 = .ok (.aload_n 0, 1) := by decide +kernel
theorem d_M_number_161 : decode k_M_number 161 = .ok (.dup, 1) := by decide +kernel
theorem d_M_number_162 : decode k_M_number 162 = .ok (.getfield 83, 3) := by decide +kernel
theorem d_M_number_165 : decode k_M_number 165 = .ok (.iconst 1, 1) := by decide +kernel
theorem d_M_number_166 : decode k_M_number 166 = .ok (.iadd, 1) := by decide +kernel
theorem d_M_number_167 : decode k_M_number 167 = .ok (.putfield 83, 3) := by decide +kernel
theorem d_M_number_170 : decode k_M_number 170 = .ok (.aload_n 0, 1) := by decide +kernel
theorem d_M_number_171 : decode k_M_number 171 = .ok (.invokevirtual 95, 3) := by decide +kernel
theorem d_M_number_174 : decode k_M_number 174 = .ok (.bipush 45, 2) := by decide +kernel
theorem d_M_number_176 : decode k_M_number 176 = .ok (.if_icmp .ne 7, 3) := by decide +kernel
theorem d_M_number_179 : decode k_M_number 179 = .ok (.iconst 1, 1) := by decide +kernel
theorem d_M_number_180 : decode k_M_number 180 = .ok (.goto 4, 3) := by decide +kernel
theorem d_M_number_183 : decode k_M_number 183 = .ok (.iconst 0, 1) := by decide +kernel
theorem d_M_number_184 : decode k_M_number 184 = .ok (.istore 9, 2) := by decide +kernel
theorem d_M_number_186 : decode k_M_number 186 = .ok (.aload_n 0, 1) := by decide +kernel
theorem d_M_number_187 : decode k_M_number 187 = .ok (.invokevirtual 95, 3) := by decide +kernel
theorem d_M_number_190 : decode k_M_number 190 = .ok (.invokestatic 80, 3) := by decide +kernel
theorem d_M_number_193 : decode k_M_number 193 = .ok (.ifCond .eq 13, 3) := by decide +kernel
theorem d_M_number_196 : decode k_M_number 196 = .ok (.aload_n 0, 1) := by decide +kernel
theorem d_M_number_197 : decode k_M_number 197 = .ok (.dup, 1) := by decide +kernel
theorem d_M_number_198 : decode k_M_number 198 = .ok (.getfield 83, 3) := by decide +kernel
theorem d_M_number_201 : decode k_M_number 201 = .ok (.iconst 1, 1) := by decide +kernel
theorem d_M_number_202 : decode k_M_number 202 = .ok (.iadd, 1) := by decide +kernel
theorem d_M_number_203 : decode k_M_number 203 = .ok (.putfield 83, 3) := by decide +kernel
theorem d_M_number_206 : decode k_M_number 206 = .ok (.aload_n 0, 1) := by decide +kernel
theorem d_M_number_207 : decode k_M_number 207 = .ok (.getfield 83, 3) := by decide +kernel
theorem d_M_number_210 : decode k_M_number 210 = .ok (.istore 10, 2) := by decide +kernel
theorem d_M_number_212 : decode k_M_number 212 = .ok (.aload_n 0, 1) := by decide +kernel
theorem d_M_number_213 : decode k_M_number 213 = .ok (.invokevirtual 113, 3) := by decide +kernel
theorem d_M_number_216 : decode k_M_number 216 = .ok (.ifCond .ne 10, 3) := by decide +kernel
theorem d_M_number_219 : decode k_M_number 219 = .ok (.aload_n 0, 1) := by decide +kernel
theorem d_M_number_220 : decode k_M_number 220 = .ok (.iconst 4, 1) := by decide +kernel
theorem d_M_number_221 : decode k_M_number 221 = .ok (.iload_n 1, 1) := by decide +kernel
theorem d_M_number_222 : decode k_M_number 222 = .ok (.invokevirtual 102, 3) := by decide +kernel
theorem d_M_number_225 : decode k_M_number 225 = .ok (.ireturn, 1) := by decide +kernel
theorem d_M_number_226 : decode k_M_number 226 = .ok (.iload 10, 2) := by decide +kernel
theorem d_M_number_228 : decode k_M_number 228 = .ok (.istore 11, 2) := by decide +kernel
theorem d_M_number_230 : decode k_M_number 230 = .ok (.iload 11, 2) := by decide +kernel
theorem d_M_number_232 : decode k_M_number 232 = .ok (.aload_n 0, 1) := by decide +kernel
theorem d_M_number_233 : decode k_M_number 233 = .ok (.getfield 83, 3) := by decide +kernel
theorem d_M_number_236 : decode k_M_number 236 = .ok (.if_icmp .ge 44, 3) := by decide +kernel
theorem d_M_number_239 : decode k_M_number 239 = .ok (.lload 7, 2) := by decide +kernel
theorem d_M_number_241 : decode k_M_number 241 = .ok (.ldc2_w 116, 3) := by decide +kernel
theorem d_M_number_244 : decode k_M_number 244 = .ok (.lcmp, 1) := by decide +kernel
theorem d_M_number_245 : decode k_M_number 245 = .ok (.ifCond .le 8, 3) := by decide +kernel
theorem d_M_number_248 : decode k_M_number 248 = .ok (.lload 7, 2) := by decide +kernel
theorem d_M_number_250 : decode k_M_number 250 = .ok (.goto 22, 3) := by decide +kernel
theorem d_M_number_253 : decode k_M_number 253 = .ok (.ldc2_w 118, 3) := by decide +kernel
theorem d_M_number_256 : decode k_M_number 256 = .ok (.lload 7, 2) := by decide +kernel
theorem d_M_number_258 : decode k_M_number 258 = .ok (.lmul, 1) := by decide +kernel
theorem d_M_number_259 : decode k_M_number 259 = .ok (.aload_n 0, 1) := by decide +kernel
theorem d_M_number_260 : decode k_M_number 260 = .ok (.getfield 17, 3) := by decide +kernel
theorem d_M_number_263 : decode k_M_number 263 = .ok (.iload 11, 2) := by decide +kernel
theorem d_M_number_265 : decode k_M_number 265 = .ok (.iaload, 1) := by decide +kernel
theorem d_M_number_266 : decode k_M_number 266 = .ok (.i2l, 1) := by decide +kernel
theorem d_M_number_267 : decode k_M_number 267 = .ok (.ladd, 1) := by decide +kernel
theorem d_M_number_268 : decode k_M_number 268 = .ok (.ldc2_w 120, 3) := by decide +kernel
theorem d_M_number_271 : decode k_M_number 271 = .ok (.lsub, 1) := by decide +kernel
theorem d_M_number_272 : decode k_M_number 272 = .ok (.lstore 7, 2) := by decide +kernel
theorem d_M_number_274 : decode k_M_number 274 = .ok (.iinc 11 1, 3) := by decide +kernel
theorem d_M_number_277 : decode k_M_number 277 = .ok (.goto (-47), 3) := by decide +kernel
theorem d_M_number_280 : decode k_M_number 280 = .ok (.iload 9, 2) := by decide +kernel
theorem d_M_number_282 : decode k_M_number 282 = .ok (.ifCond .eq 9, 3) := by decide +kernel
theorem d_M_number_285 : decode k_M_number 285 = .ok (.lload 7, 2) := by decide +kernel
theorem d_M_number_287 : decode k_M_number 287 = .ok (.lneg, 1) := by decide +kernel
theorem d_M_number_288 : decode k_M_number 288 = .ok (.goto 5, 3) := by decide +kernel
theorem d_M_number_291 : decode k_M_number 291 = .ok (.lload 7, 2) := by decide +kernel
theorem d_M_number_293 : decode k_M_number 293 = .ok (.lstore 7, 2) := by decide +kernel
theorem d_M_number_295 : decode k_M_number 295 = .ok (.aload_n 0, 1) := by decide +kernel
theorem d_M_number_296 : decode k_M_number 296 = .ok (.invokevirtual 95, 3) := by decide +kernel
theorem d_M_number_299 : decode k_M_number 299 = .ok (.invokestatic 73, 3) := by decide +kernel
theorem d_M_number_302 : decode k_M_number 302 = .ok (.ifCond .ne 32, 3) := by decide +kernel
theorem d_M_number_305 : decode k_M_number 305 = .ok (.aload_n 0, 1) := by decide +kernel
theorem d_M_number_306 : decode k_M_number 306 = .ok (.invokevirtual 95, 3) := by decide +kernel
theorem d_M_number_309 : decode k_M_number 309 = .ok (.invokestatic 77, 3) := by decide +kernel
theorem d_M_number_312 : decode k_M_number 312 = .ok (.ifCond .ne 22, 3) := by decide +kernel
theorem d_M_number_315 : decode k_M_number 315 = .ok (.aload_n 0, 1) := by decide +kernel
theorem d_M_number_316 : decode k_M_number 316 = .ok (.invokevirtual 95, 3) := by decide +kernel
theorem d_M_number_319 : decode k_M_number 319 = .ok (.invokestatic 80, 3) := by decide +kernel
theorem d_M_number_322 : decode k_M_number 322 = .ok (.ifCond .ne 12, 3) := by decide +kernel
theorem d_M_number_325 : decode k_M_number 325 = .ok (.aload_n 0, 1) := by decide +kernel
theorem d_M_number_326 : decode k_M_number 326 = .ok (.invokevirtual 95, 3) := by decide +kernel
theorem d_M_number_329 : decode k_M_number 329 = .ok (.bipush 46, 2) := by decide +kernel
theorem d_M_number_331 : decode k_M_number 331 = .ok (.if_icmp .ne 10, 3) := by decide +kernel
theorem d_M_number_334 : decode k_M_number 334 = .ok (.aload_n 0, 1) := by decide +kernel
theorem d_M_number_335 : decode k_M_number 335 = .ok (.iconst 4, 1) := by decide +kernel
theorem d_M_number_336 : decode k_M_number 336 = .ok (.iload_n 1, 1) := by decide +kernel
theorem d_M_number_337 : decode k_M_number 337 = .ok (.invokevirtual 102, 3) := by decide +kernel
theorem d_M_number_340 : decode k_M_number 340 = .ok (.ireturn, 1) := by decide +kernel
theorem d_M_number_341 : decode k_M_number 341 = .ok (.aload_n 0, 1) := by decide +kernel
theorem d_M_number_342 : decode k_M_number 342 = .ok (.iload_n 3, 1) := by decide +kernel
theorem d_M_number_343 : decode k_M_number 343 = .ok (.iload 6, 2) := by decide +kernel
theorem d_M_number_345 : decode k_M_number 345 = .ok (.iload 4, 2) := by decide +kernel
theorem d_M_number_347 : decode k_M_number 347 = .ok (.i2l, 1) := by decide +kernel
theorem d_M_number_348 : decode k_M_number 348 = .ok (.lload 7, 2) := by decide +kernel
theorem d_M_number_350 : decode k_M_number 350 = .ok (.ladd, 1) := by decide +kernel
theorem d_M_number_351 : decode k_M_number 351 = .ok (.aload_n 0, 1) := by decide +kernel
theorem d_M_number_352 : decode k_M_number 352 = .ok (.getfield 49, 3) := by decide +kernel
theorem d_M_number_355 : decode k_M_number 355 = .ok (.i2l, 1) := by decide +kernel
theorem d_M_number_356 : decode k_M_number 356 = .ok (.ladd, 1) := by decide +kernel
theorem d_M_number_357 : decode k_M_number 357 = .ok (.invokevirtual 122, 3) := by decide +kernel
theorem d_M_number_360 : decode k_M_number 360 = .ok (.lstore 9, 2) := by decide +kernel
theorem d_M_number_362 : decode k_M_number 362 = .ok (.lload 9, 2) := by decide +kernel
theorem d_M_number_364 : decode k_M_number 364 = .ok (.ldc2_w 126, 3) := by decide +kernel
theorem d_M_number_367 : decode k_M_number 367 = .ok (.lcmp, 1) := by decide +kernel
theorem d_M_number_368 : decode k_M_number 368 = .ok (.ifCond .le 10, 3) := by decide +kernel
theorem d_M_number_371 : decode k_M_number 371 = .ok (.aload_n 0, 1) := by decide +kernel
theorem d_M_number_372 : decode k_M_number 372 = .ok (.iconst 5, 1) := by decide +kernel
theorem d_M_number_373 : decode k_M_number 373 = .ok (.iload_n 1, 1) := by decide +kernel
theorem d_M_number_374 : decode k_M_number 374 = .ok (.invokevirtual 102, 3) := by decide +kernel
theorem d_M_number_377 : decode k_M_number 377 = .ok (.ireturn, 1) := by decide +kernel
theorem d_M_number_378 : decode k_M_number 378 = .ok (.aload_n 0, 1) := by decide +kernel
theorem d_M_number_379 : decode k_M_number 379 = .ok (.iload_n 2, 1) := by decide +kernel
theorem d_M_number_380 : decode k_M_number 380 = .ok (.ifCond .eq 10, 3) := by decide +kernel
theorem d_M_number_383 : decode k_M_number 383 = .ok (.lload 9, 2) := by decide +kernel
theorem d_M_number_385 : decode k_M_number 385 = .ok (.lneg, 1) := by decide +kernel
theorem d_M_number_386 : decode k_M_number 386 = .ok (.l2i, 1) := by decide +kernel
theorem d_M_number_387 : decode k_M_number 387 = .ok (.goto 6, 3) := by decide +kernel
theorem d_M_number_390 : decode k_M_number 390 = .ok (.lload 9, 2) := by decide +kernel
theorem d_M_number_392 : decode k_M_number 392 = .ok (.l2i, 1) := by decide +kernel
theorem d_M_number_393 : decode k_M_number 393 = .ok (.putfield 128, 3) := by decide +kernel
theorem d_M_number_396 : decode k_M_number 396 = .ok (.iconst 1, 1) := by decide +kernel
theorem d_M_number_397 : decode k_M_number 397 = .ok (.ireturn, 1) := by decide +kernel
theorem d_M_rounded_0 : decode k_M_rounded 0 = .ok (.lconst 0, 1) := by decide +kernel
theorem d_M_rounded_1 : decode k_M_rounded 1 = .ok (.lstore 5, 2) := by decide +kernel
theorem d_M_rounded_3 : decode k_M_rounded 3 = .ok (.iconst 0, 1) := by decide +kernel
theorem d_M_rounded_4 : decode k_M_rounded 4 = .ok (.istore 7, 2) := by decide +kernel
theorem d_M_rounded_6 : decode k_M_rounded 6 = .ok (.iconst 0, 1) := by decide +kernel
theorem d_M_rounded_7 : decode k_M_rounded 7 = .ok (.istore 8, 2) := by decide +kernel
theorem d_M_rounded_9 : decode k_M_rounded 9 = .ok (.lconst 0, 1) := by decide +kernel
theorem d_M_rounded_10 : decode k_M_rounded 10 = .ok (.lstore 9, 2) := by decide +kernel
theorem d_M_rounded_12 : decode k_M_rounded 12 = .ok (.iload_n 1, 1) := by decide +kernel
theorem d_M_rounded_13 : decode k_M_rounded 13 = .ok (.istore 11, 2) := by decide +kernel
theorem d_M_rounded_15 : decode k_M_rounded 15 = .ok (.iload 11, 2) := by decide +kernel
theorem d_M_rounded_17 : decode k_M_rounded 17 = .ok (.iload_n 2, 1) := by decide +kernel
theorem d_M_rounded_18 : decode k_M_rounded 18 = .ok (.if_icmp .ge 106, 3) := by decide +kernel
theorem d_M_rounded_21 : decode k_M_rounded 21 = .ok (.aload_n 0, 1) := by decide +kernel
theorem d_M_rounded_22 : decode k_M_rounded 22 = .ok (.getfield 17, 3) := by decide +kernel
theorem d_M_rounded_25 : decode k_M_rounded 25 = .ok (.iload 11, 2) := by decide +kernel
theorem d_M_rounded_27 : decode k_M_rounded 27 = .ok (.iaload, 1) := by decide +kernel
theorem d_M_rounded_28 : decode k_M_rounded 28 = .ok (.bipush 46, 2) := by decide +kernel
theorem d_M_rounded_30 : decode k_M_rounded 30 = .ok (.if_icmp .eq 88, 3) := by decide +kernel
theorem d_M_rounded_33 : decode k_M_rounded 33 = .ok (.aload_n 0, 1) := by decide +kernel
theorem d_M_rounded_34 : decode k_M_rounded 34 = .ok (.getfield 17, 3) := by decide +kernel
theorem d_M_rounded_37 : decode k_M_rounded 37 = .ok (.iload 11, 2) := by decide +kernel
theorem d_M_rounded_39 : decode k_M_rounded 39 = .ok (.iaload, 1) := by decide +kernel
theorem d_M_rounded_40 : decode k_M_rounded 40 = .ok (.bipush 48, 2) := by decide +kernel
theorem d_M_rounded_42 : decode k_M_rounded 42 = .ok (.isub, 1) := by decide +kernel
theorem d_M_rounded_43 : decode k_M_rounded 43 = .ok (.istore 12, 2) := by decide +kernel
theorem d_M_rounded_45 : decode k_M_rounded 45 = .ok (.lload 9, 2) := by decide +kernel
theorem d_M_rounded_47 : decode k_M_rounded 47 = .ok (.lload_n 3, 1) := by decide +kernel
theorem d_M_rounded_48 : decode k_M_rounded 48 = .ok (.lcmp, 1) := by decide +kernel
theorem d_M_rounded_49 : decode k_M_rounded 49 = .ok (.ifCond .ge 32, 3) := by decide +kernel
theorem d_M_rounded_52 : decode k_M_rounded 52 = .ok (.lload 5, 2) := by decide +kernel
theorem d_M_rounded_54 : decode k_M_rounded 54 = .ok (.ldc2_w 131, 3) := by decide +kernel
theorem d_M_rounded_57 : decode k_M_rounded 57 = .ok (.lcmp, 1) := by decide +kernel
theorem d_M_rounded_58 : decode k_M_rounded 58 = .ok (.ifCond .le 8, 3) := by decide +kernel
theorem d_M_rounded_61 : decode k_M_rounded 61 = .ok (.lload 5, 2) := by decide +kernel
theorem d_M_rounded_63 : decode k_M_rounded 63 = .ok (.goto 13, 3) := by decide +kernel
theorem d_M_rounded_66 : decode k_M_rounded 66 = .ok (.ldc2_w 118, 3) := by decide +kernel
theorem d_M_rounded_69 : decode k_M_rounded 69 = .ok (.lload 5, 2) := by decide +kernel
theorem d_M_rounded_71 : decode k_M_rounded 71 = .ok (.lmul, 1) := by decide +kernel
theorem d_M_rounded_72 : decode k_M_rounded 72 = .ok (.iload 12, 2) := by decide +kernel
theorem d_M_rounded_74 : decode k_M_rounded 74 = .ok (.i2l, 1) := by decide +kernel
theorem d_M_rounded_75 : decode k_M_rounded 75 = .ok (.ladd, 1) := by decide +kernel
theorem d_M_rounded_76 : decode k_M_rounded 76 = .ok (.lstore 5, 2) := by decide +kernel
theorem d_M_rounded_78 : decode k_M_rounded 78 = .ok (.goto 34, 3) := by decide +kernel
theorem d_M_rounded_81 : decode k_M_rounded 81 = .ok (.lload 9, 2) := by decide +kernel
theorem d_M_rounded_83 : decode k_M_rounded 83 = .ok (.lload_n 3, 1) := by decide +kernel
theorem d_M_rounded_84 : decode k_M_rounded 84 = .ok (.lcmp, 1) := by decide +kernel
theorem d_M_rounded_85 : decode k_M_rounded 85 = .ok (.ifCond .ne 10, 3) := by decide +kernel
theorem d_M_rounded_88 : decode k_M_rounded 88 = .ok (.iload 12, 2) := by decide +kernel
theorem d_M_rounded_90 : decode k_M_rounded 90 = .ok (.istore 7, 2) := by decide +kernel
theorem d_M_rounded_92 : decode k_M_rounded 92 = .ok (.goto 20, 3) := by decide +kernel
theorem d_M_rounded_95 : decode k_M_rounded 95 = .ok (.iload 8, 2) := by decide +kernel
theorem d_M_rounded_97 : decode k_M_rounded 97 = .ok (.ifCond .ne 8, 3) := by decide +kernel
theorem d_M_rounded_100 : decode k_M_rounded 100 = .ok (.iload 12, 2) := by decide +kernel
theorem d_M_rounded_102 : decode k_M_rounded 102 = .ok (.ifCond .le 7, 3) := by decide +kernel
theorem d_M_rounded_105 : decode k_M_rounded 105 = .ok (.iconst 1, 1) := by decide +kernel
theorem d_M_rounded_106 : decode k_M_rounded 106 = .ok (.goto 4, 3) := by decide +kernel
theorem d_M_rounded_109 : decode k_M_rounded 109 = .ok (.iconst 0, 1) := by decide +kernel
theorem d_M_rounded_110 : decode k_M_rounded 110 = .ok (.istore 8, 2) := by decide +kernel
theorem d_M_rounded_112 : decode k_M_rounded 112 = .ok (.lload 9, 2) := by decide +kernel
theorem d_M_rounded_114 : decode k_M_rounded 114 = .ok (.lconst 1, 1) := by decide +kernel
theorem d_M_rounded_115 : decode k_M_rounded 115 = .ok (.ladd, 1) := by decide +kernel
theorem d_M_rounded_116 : decode k_M_rounded 116 = .ok (.lstore 9, 2) := by decide +kernel
theorem d_M_rounded_118 : decode k_M_rounded 118 = .ok (.iinc 11 1, 3) := by decide +kernel
theorem d_M_rounded_121 : decode k_M_rounded 121 = .ok (.goto (-106), 3) := by decide +kernel
theorem d_M_rounded_124 : decode k_M_rounded 124 = .ok (.lload 9, 2) := by decide +kernel
theorem d_M_rounded_126 : decode k_M_rounded 126 = .ok (.lload_n 3, 1) := by decide +kernel
theorem d_M_rounded_127 : decode k_M_rounded 127 = .ok (.lcmp, 1) := by decide +kernel
theorem d_M_rounded_128 : decode k_M_rounded 128 = .ok (.ifCond .ge 36, 3) := by decide +kernel
theorem d_M_rounded_131 : decode k_M_rounded 131 = .ok (.lload 5, 2) := by decide +kernel
theorem d_M_rounded_133 : decode k_M_rounded 133 = .ok (.lconst 0, 1) := by decide +kernel
theorem d_M_rounded_134 : decode k_M_rounded 134 = .ok (.lcmp, 1) := by decide +kernel
theorem d_M_rounded_135 : decode k_M_rounded 135 = .ok (.ifCond .le 29, 3) := by decide +kernel
theorem d_M_rounded_138 : decode k_M_rounded 138 = .ok (.lload 5, 2) := by decide +kernel
theorem d_M_rounded_140 : decode k_M_rounded 140 = .ok (.ldc2_w 131, 3) := by decide +kernel
theorem d_M_rounded_143 : decode k_M_rounded 143 = .ok (.lcmp, 1) := by decide +kernel
theorem d_M_rounded_144 : decode k_M_rounded 144 = .ok (.ifCond .gt 20, 3) := by decide +kernel
theorem d_M_rounded_147 : decode k_M_rounded 147 = .ok (.ldc2_w 118, 3) := by decide +kernel
theorem d_M_rounded_150 : decode k_M_rounded 150 = .ok (.lload 5, 2) := by decide +kernel
theorem d_M_rounded_152 : decode k_M_rounded 152 = .ok (.lmul, 1) := by decide +kernel
theorem d_M_rounded_153 : decode k_M_rounded 153 = .ok (.lstore 5, 2) := by decide +kernel
theorem d_M_rounded_155 : decode k_M_rounded 155 = .ok (.lload 9, 2) := by decide +kernel
theorem d_M_rounded_157 : decode k_M_rounded 157 = .ok (.lconst 1, 1) := by decide +kernel
theorem d_M_rounded_158 : decode k_M_rounded 158 = .ok (.ladd, 1) := by decide +kernel
theorem d_M_rounded_159 : decode k_M_rounded 159 = .ok (.lstore 9, 2) := by decide +kernel
theorem d_M_rounded_161 : decode k_M_rounded 161 = .ok (.goto (-37), 3) := by decide +kernel
theorem d_M_rounded_164 : decode k_M_rounded 164 = .ok (.lload_n 3, 1) := by decide +kernel
theorem d_M_rounded_165 : decode k_M_rounded 165 = .ok (.lconst 0, 1) := by decide +kernel
theorem d_M_rounded_166 : decode k_M_rounded 166 = .ok (.lcmp, 1) := by decide +kernel
theorem d_M_rounded_167 : decode k_M_rounded 167 = .ok (.ifCond .ge 5, 3) := by decide +kernel
theorem d_M_rounded_170 : decode k_M_rounded 170 = .ok (.lconst 0, 1) := by decide +kernel
theorem d_M_rounded_171 : decode k_M_rounded 171 = .ok (.lreturn, 1) := by decide +kernel
theorem d_M_rounded_172 : decode k_M_rounded 172 = .ok (.iload 7, 2) := by decide +kernel
theorem d_M_rounded_174 : decode k_M_rounded 174 = .ok (.iconst 5, 1) := by decide +kernel
theorem d_M_rounded_175 : decode k_M_rounded 175 = .ok (.if_icmp .gt 25, 3) := by decide +kernel
theorem d_M_rounded_178 : decode k_M_rounded 178 = .ok (.iload 7, 2) := by decide +kernel
theorem d_M_rounded_180 : decode k_M_rounded 180 = .ok (.iconst 5, 1) := by decide +kernel
theorem d_M_rounded_181 : decode k_M_rounded 181 = .ok (.if_icmp .ne 26, 3) := by decide +kernel
theorem d_M_rounded_184 : decode k_M_rounded 184 = .ok (.iload 8, 2) := by decide +kernel
theorem d_M_rounded_186 : decode k_M_rounded 186 = .ok (.ifCond .ne 14, 3) := by decide +kernel
theorem d_M_rounded_189 : decode k_M_rounded 189 = .ok (.lload 5, 2) := by decide +kernel
theorem d_M_rounded_191 : decode k_M_rounded 191 = .ok (.ldc2_w 133, 3) := by decide +kernel
theorem d_M_rounded_194 : decode k_M_rounded 194 = .ok (.lrem, 1) := by decide +kernel
theorem d_M_rounded_195 : decode k_M_rounded 195 = .ok (.lconst 1, 1) := by decide +kernel
theorem d_M_rounded_196 : decode k_M_rounded 196 = .ok (.lcmp, 1) := by decide +kernel
theorem d_M_rounded_197 : decode k_M_rounded 197 = .ok (.ifCond .ne 10, 3) := by decide +kernel
theorem d_M_rounded_200 : decode k_M_rounded 200 = .ok (.lload 5, 2) := by decide +kernel
theorem d_M_rounded_202 : decode k_M_rounded 202 = .ok (.lconst 1, 1) := by decide +kernel
theorem d_M_rounded_203 : decode k_M_rounded 203 = .ok (.ladd, 1) := by decide +kernel
theorem d_M_rounded_204 : decode k_M_rounded 204 = .ok (.goto 5, 3) := by decide +kernel
theorem d_M_rounded_207 : decode k_M_rounded 207 = .ok (.lload 5, 2) := by decide +kernel
theorem d_M_rounded_209 : decode k_M_rounded 209 = .ok (.lreturn, 1) := by decide +kernel
theorem d_M_room_0 : decode k_M_room 0 = .ok (.aload_n 0, 1) := by decide +kernel
theorem d_M_room_1 : decode k_M_room 1 = .ok (.getfield 23, 3) := by decide +kernel
theorem d_M_room_4 : decode k_M_room 4 = .ok (.aload_n 0, 1) := by decide +kernel
theorem d_M_room_5 : decode k_M_room 5 = .ok (.getfield 135, 3) := by decide +kernel
theorem d_M_room_8 : decode k_M_room 8 = .ok (.iaload, 1) := by decide +kernel
theorem d_M_room_9 : decode k_M_room 9 = .ok (.iload_n 1, 1) := by decide +kernel
theorem d_M_room_10 : decode k_M_room 10 = .ok (.iadd, 1) := by decide +kernel
theorem d_M_room_11 : decode k_M_room 11 = .ok (.aload_n 0, 1) := by decide +kernel
theorem d_M_room_12 : decode k_M_room 12 = .ok (.getfield 56, 3) := by decide +kernel
theorem d_M_room_15 : decode k_M_room 15 = .ok (.if_icmp .gt 25, 3) := by decide +kernel
theorem d_M_room_18 : decode k_M_room 18 = .ok (.aload_n 0, 1) := by decide +kernel
theorem d_M_room_19 : decode k_M_room 19 = .ok (.getfield 30, 3) := by decide +kernel
theorem d_M_room_22 : decode k_M_room 22 = .ok (.aload_n 0, 1) := by decide +kernel
theorem d_M_room_23 : decode k_M_room 23 = .ok (.getfield 135, 3) := by decide +kernel
theorem d_M_room_26 : decode k_M_room 26 = .ok (.iaload, 1) := by decide +kernel
theorem d_M_room_27 : decode k_M_room 27 = .ok (.iload_n 2, 1) := by decide +kernel
theorem d_M_room_28 : decode k_M_room 28 = .ok (.iadd, 1) := by decide +kernel
theorem d_M_room_29 : decode k_M_room 29 = .ok (.aload_n 0, 1) := by decide +kernel
theorem d_M_room_30 : decode k_M_room 30 = .ok (.getfield 53, 3) := by decide +kernel
theorem d_M_room_33 : decode k_M_room 33 = .ok (.if_icmp .gt 7, 3) := by decide +kernel
theorem d_M_room_36 : decode k_M_room 36 = .ok (.iconst 1, 1) := by decide +kernel
theorem d_M_room_37 : decode k_M_room 37 = .ok (.goto 4, 3) := by decide +kernel
theorem d_M_room_40 : decode k_M_room 40 = .ok (.iconst 0, 1) := by decide +kernel
theorem d_M_room_41 : decode k_M_room 41 = .ok (.ireturn, 1) := by decide +kernel
theorem d_M_say_0 : decode k_M_say 0 = .ok (.aload_n 0, 1) := by decide +kernel
theorem d_M_say_1 : decode k_M_say 1 = .ok (.getfield 20, 3) := by decide +kernel
theorem d_M_say_4 : decode k_M_say 4 = .ok (.sipush 4096, 3) := by decide +kernel
theorem d_M_say_7 : decode k_M_say 7 = .ok (.aload_n 0, 1) := by decide +kernel
theorem d_M_say_8 : decode k_M_say 8 = .ok (.getfield 135, 3) := by decide +kernel
theorem d_M_say_11 : decode k_M_say 11 = .ok (.imul, 1) := by decide +kernel
theorem d_M_say_12 : decode k_M_say 12 = .ok (.aload_n 0, 1) := by decide +kernel
theorem d_M_say_13 : decode k_M_say 13 = .ok (.getfield 23, 3) := by decide +kernel
theorem d_M_say_16 : decode k_M_say 16 = .ok (.aload_n 0, 1) := by decide +kernel
theorem d_M_say_17 : decode k_M_say 17 = .ok (.getfield 135, 3) := by decide +kernel
theorem d_M_say_20 : decode k_M_say 20 = .ok (.iaload, 1) := by decide +kernel
theorem d_M_say_21 : decode k_M_say 21 = .ok (.iadd, 1) := by decide +kernel
theorem d_M_say_22 : decode k_M_say 22 = .ok (.iload_n 1, 1) := by decide +kernel
theorem d_M_say_23 : decode k_M_say 23 = .ok (.iastore, 1) := by decide +kernel
theorem d_M_say_24 : decode k_M_say 24 = .ok (.aload_n 0, 1) := by decide +kernel
theorem d_M_say_25 : decode k_M_say 25 = .ok (.getfield 23, 3) := by decide +kernel
theorem d_M_say_28 : decode k_M_say 28 = .ok (.aload_n 0, 1) := by decide +kernel
theorem d_M_say_29 : decode k_M_say 29 = .ok (.getfield 135, 3) := by decide +kernel
theorem d_M_say_32 : decode k_M_say 32 = .ok (.dup2, 1) := by decide +kernel
theorem d_M_say_33 : decode k_M_say 33 = .ok (.iaload, 1) := by decide +kernel
theorem d_M_say_34 : decode k_M_say 34 = .ok (.iconst 1, 1) := by decide +kernel
theorem d_M_say_35 : decode k_M_say 35 = .ok (.iadd, 1) := by decide +kernel
theorem d_M_say_36 : decode k_M_say 36 = .ok (.iastore, 1) := by decide +kernel
theorem d_M_say_37 : decode k_M_say 37 = .ok (.return_, 1) := by decide +kernel
theorem d_M_open_0 : decode k_M_open 0 = .ok (.aload_n 0, 1) := by decide +kernel
theorem d_M_open_1 : decode k_M_open 1 = .ok (.iload_n 1, 1) := by decide +kernel
theorem d_M_open_2 : decode k_M_open 2 = .ok (.invokevirtual 138, 3) := by decide +kernel
theorem d_M_open_5 : decode k_M_open 5 = .ok (.aload_n 0, 1) := by decide +kernel
theorem d_M_open_6 : decode k_M_open 6 = .ok (.iconst 0, 1) := by decide +kernel
theorem d_M_open_7 : decode k_M_open 7 = .ok (.invokevirtual 138, 3) := by decide +kernel
theorem d_M_open_10 : decode k_M_open 10 = .ok (.aload_n 0, 1) := by decide +kernel
theorem d_M_open_11 : decode k_M_open 11 = .ok (.getfield 23, 3) := by decide +kernel
theorem d_M_open_14 : decode k_M_open 14 = .ok (.aload_n 0, 1) := by decide +kernel
theorem d_M_open_15 : decode k_M_open 15 = .ok (.getfield 135, 3) := by decide +kernel
theorem d_M_open_18 : decode k_M_open 18 = .ok (.iaload, 1) := by decide +kernel
theorem d_M_open_19 : decode k_M_open 19 = .ok (.iconst 1, 1) := by decide +kernel
theorem d_M_open_20 : decode k_M_open 20 = .ok (.isub, 1) := by decide +kernel
theorem d_M_open_21 : decode k_M_open 21 = .ok (.ireturn, 1) := by decide +kernel
theorem d_M_close_0 : decode k_M_close 0 = .ok (.aload_n 0, 1) := by decide +kernel
theorem d_M_close_1 : decode k_M_close 1 = .ok (.getfield 20, 3) := by decide +kernel
theorem d_M_close_4 : decode k_M_close 4 = .ok (.sipush 4096, 3) := by decide +kernel
theorem d_M_close_7 : decode k_M_close 7 = .ok (.aload_n 0, 1) := by decide +kernel
theorem d_M_close_8 : decode k_M_close 8 = .ok (.getfield 135, 3) := by decide +kernel
theorem d_M_close_11 : decode k_M_close 11 = .ok (.imul, 1) := by decide +kernel
theorem d_M_close_12 : decode k_M_close 12 = .ok (.iload_n 1, 1) := by decide +kernel
theorem d_M_close_13 : decode k_M_close 13 = .ok (.iadd, 1) := by decide +kernel
theorem d_M_close_14 : decode k_M_close 14 = .ok (.iload_n 2, 1) := by decide +kernel
theorem d_M_close_15 : decode k_M_close 15 = .ok (.iastore, 1) := by decide +kernel
theorem d_M_close_16 : decode k_M_close 16 = .ok (.return_, 1) := by decide +kernel
theorem d_M_coordinate_0 : decode k_M_coordinate 0 = .ok (.aload_n 0, 1) := by decide +kernel
theorem d_M_coordinate_1 : decode k_M_coordinate 1 = .ok (.invokevirtual 106, 3) := by decide +kernel
theorem d_M_coordinate_4 : decode k_M_coordinate 4 = .ok (.aload_n 0, 1) := by decide +kernel
theorem d_M_coordinate_5 : decode k_M_coordinate 5 = .ok (.iconst 0, 1) := by decide +kernel
theorem d_M_coordinate_6 : decode k_M_coordinate 6 = .ok (.iconst 1, 1) := by decide +kernel
theorem d_M_coordinate_7 : decode k_M_coordinate 7 = .ok (.invokevirtual 142, 3) := by decide +kernel
theorem d_M_coordinate_10 : decode k_M_coordinate 10 = .ok (.ifCond .ne 14, 3) := by decide +kernel
theorem d_M_coordinate_13 : decode k_M_coordinate 13 = .ok (.aload_n 0, 1) := by decide +kernel
theorem d_M_coordinate_14 : decode k_M_coordinate 14 = .ok (.bipush 7, 2) := by decide +kernel
theorem d_M_coordinate_16 : decode k_M_coordinate 16 = .ok (.aload_n 0, 1) := by decide +kernel
theorem d_M_coordinate_17 : decode k_M_coordinate 17 = .ok (.getfield 83, 3) := by decide +kernel
theorem d_M_coordinate_20 : decode k_M_coordinate 20 = .ok (.invokevirtual 102, 3) := by decide +kernel
theorem d_M_coordinate_23 : decode k_M_coordinate 23 = .ok (.ireturn, 1) := by decide +kernel
theorem d_M_coordinate_24 : decode k_M_coordinate 24 = .ok (.aload_n 0, 1) := by decide +kernel
theorem d_M_coordinate_25 : decode k_M_coordinate 25 = .ok (.invokevirtual 145, 3) := by decide +kernel
theorem d_M_coordinate_28 : decode k_M_coordinate 28 = .ok (.ifCond .ne 5, 3) := by decide +kernel
theorem d_M_coordinate_31 : decode k_M_coordinate 31 = .ok (.iconst 0, 1) := by decide +kernel
theorem d_M_coordinate_32 : decode k_M_coordinate 32 = .ok (.ireturn, 1) := by decide +kernel
theorem d_M_coordinate_33 : decode k_M_coordinate 33 = .ok (.aload_n 0, 1) := by decide +kernel
theorem d_M_coordinate_34 : decode k_M_coordinate 34 = .ok (.getfield 128, 3) := by decide +kernel
theorem d_M_coordinate_37 : decode k_M_coordinate 37 = .ok (.istore_n 1, 1) := by decide +kernel
theorem d_M_coordinate_38 : decode k_M_coordinate 38 = .ok (.aload_n 0, 1) := by decide +kernel
theorem d_M_coordinate_39 : decode k_M_coordinate 39 = .ok (.invokevirtual 145, 3) := by decide +kernel
theorem d_M_coordinate_42 : decode k_M_coordinate 42 = .ok (.ifCond .ne 5, 3) := by decide +kernel
theorem d_M_coordinate_45 : decode k_M_coordinate 45 = .ok (.iconst 0, 1) := by decide +kernel
theorem d_M_coordinate_46 : decode k_M_coordinate 46 = .ok (.ireturn, 1) := by decide +kernel
theorem d_M_coordinate_47 : decode k_M_coordinate 47 = .ok (.iconst 2, 1) := by decide +kernel
theorem d_M_coordinate_48 : decode k_M_coordinate 48 = .ok (.sipush 4096, 3) := by decide +kernel
theorem d_M_coordinate_51 : decode k_M_coordinate 51 = .ok (.aload_n 0, 1) := by decide +kernel
theorem d_M_coordinate_52 : decode k_M_coordinate 52 = .ok (.getfield 135, 3) := by decide +kernel
theorem d_M_coordinate_55 : decode k_M_coordinate 55 = .ok (.imul, 1) := by decide +kernel
theorem d_M_coordinate_56 : decode k_M_coordinate 56 = .ok (.aload_n 0, 1) := by decide +kernel
theorem d_M_coordinate_57 : decode k_M_coordinate 57 = .ok (.getfield 30, 3) := by decide +kernel
theorem d_M_coordinate_60 : decode k_M_coordinate 60 = .ok (.aload_n 0, 1) := by decide +kernel
theorem d_M_coordinate_61 : decode k_M_coordinate 61 = .ok (.getfield 135, 3) := by decide +kernel
theorem d_M_coordinate_64 : decode k_M_coordinate 64 = .ok (.iaload, 1) := by decide +kernel
theorem d_M_coordinate_65 : decode k_M_coordinate 65 = .ok (.iadd, 1) := by decide +kernel
theorem d_M_coordinate_66 : decode k_M_coordinate 66 = .ok (.imul, 1) := by decide +kernel
theorem d_M_coordinate_67 : decode k_M_coordinate 67 = .ok (.istore_n 2, 1) := by decide +kernel
theorem d_M_coordinate_68 : decode k_M_coordinate 68 = .ok (.aload_n 0, 1) := by decide +kernel
theorem d_M_coordinate_69 : decode k_M_coordinate 69 = .ok (.getfield 27, 3) := by decide +kernel
theorem d_M_coordinate_72 : decode k_M_coordinate 72 = .ok (.iload_n 2, 1) := by decide +kernel
theorem d_M_coordinate_73 : decode k_M_coordinate 73 = .ok (.iload_n 1, 1) := by decide +kernel
theorem d_M_coordinate_74 : decode k_M_coordinate 74 = .ok (.iastore, 1) := by decide +kernel
theorem d_M_coordinate_75 : decode k_M_coordinate 75 = .ok (.aload_n 0, 1) := by decide +kernel
theorem d_M_coordinate_76 : decode k_M_coordinate 76 = .ok (.getfield 27, 3) := by decide +kernel
theorem d_M_coordinate_79 : decode k_M_coordinate 79 = .ok (.iload_n 2, 1) := by decide +kernel
theorem d_M_coordinate_80 : decode k_M_coordinate 80 = .ok (.iconst 1, 1) := by decide +kernel
theorem d_M_coordinate_81 : decode k_M_coordinate 81 = .ok (.iadd, 1) := by decide +kernel
theorem d_M_coordinate_82 : decode k_M_coordinate 82 = .ok (.aload_n 0, 1) := by decide +kernel
theorem d_M_coordinate_83 : decode k_M_coordinate 83 = .ok (.getfield 128, 3) := by decide +kernel
theorem d_M_coordinate_86 : decode k_M_coordinate 86 = .ok (.iastore, 1) := by decide +kernel
theorem d_M_coordinate_87 : decode k_M_coordinate 87 = .ok (.aload_n 0, 1) := by decide +kernel
theorem d_M_coordinate_88 : decode k_M_coordinate 88 = .ok (.getfield 30, 3) := by decide +kernel
theorem d_M_coordinate_91 : decode k_M_coordinate 91 = .ok (.aload_n 0, 1) := by decide +kernel
theorem d_M_coordinate_92 : decode k_M_coordinate 92 = .ok (.getfield 135, 3) := by decide +kernel
theorem d_M_coordinate_95 : decode k_M_coordinate 95 = .ok (.dup2, 1) := by decide +kernel
theorem d_M_coordinate_96 : decode k_M_coordinate 96 = .ok (.iaload, 1) := by decide +kernel
theorem d_M_coordinate_97 : decode k_M_coordinate 97 = .ok (.iconst 1, 1) := by decide +kernel
theorem d_M_coordinate_98 : decode k_M_coordinate 98 = .ok (.iadd, 1) := by decide +kernel
theorem d_M_coordinate_99 : decode k_M_coordinate 99 = .ok (.iastore, 1) := by decide +kernel
theorem d_M_coordinate_100 : decode k_M_coordinate 100 = .ok (.iconst 1, 1) := by decide +kernel
theorem d_M_coordinate_101 : decode k_M_coordinate 101 = .ok (.ireturn, 1) := by decide +kernel
theorem d_M_coordinates_0 : decode k_M_coordinates 0 = .ok (.iconst 0, 1) := by decide +kernel
theorem d_M_coordinates_1 : decode k_M_coordinates 1 = .ok (.istore_n 1, 1) := by decide +kernel
theorem d_M_coordinates_2 : decode k_M_coordinates 2 = .ok (.iconst 1, 1) := by decide +kernel
theorem d_M_coordinates_3 : decode k_M_coordinates 3 = .ok (.istore_n 2, 1) := by decide +kernel
theorem d_M_coordinates_4 : decode k_M_coordinates 4 = .ok (.iload_n 2, 1) := by decide +kernel
theorem d_M_coordinates_5 : decode k_M_coordinates 5 = .ok (.iconst 1, 1) := by decide +kernel
theorem d_M_coordinates_6 : decode k_M_coordinates 6 = .ok (.if_icmp .ne 23, 3) := by decide +kernel
theorem d_M_coordinates_9 : decode k_M_coordinates 9 = .ok (.aload_n 0, 1) := by decide +kernel
theorem d_M_coordinates_10 : decode k_M_coordinates 10 = .ok (.invokevirtual 148, 3) := by decide +kernel
theorem d_M_coordinates_13 : decode k_M_coordinates 13 = .ok (.ifCond .ne 5, 3) := by decide +kernel
theorem d_M_coordinates_16 : decode k_M_coordinates 16 = .ok (.iconst (-1), 1) := by decide +kernel
theorem d_M_coordinates_17 : decode k_M_coordinates 17 = .ok (.ireturn, 1) := by decide +kernel
theorem d_M_coordinates_18 : decode k_M_coordinates 18 = .ok (.iinc 1 1, 3) := by decide +kernel
theorem d_M_coordinates_21 : decode k_M_coordinates 21 = .ok (.aload_n 0, 1) := by decide +kernel
theorem d_M_coordinates_22 : decode k_M_coordinates 22 = .ok (.invokevirtual 151, 3) := by decide +kernel
theorem d_M_coordinates_25 : decode k_M_coordinates 25 = .ok (.istore_n 2, 1) := by decide +kernel
theorem d_M_coordinates_26 : decode k_M_coordinates 26 = .ok (.goto (-22), 3) := by decide +kernel
theorem d_M_coordinates_29 : decode k_M_coordinates 29 = .ok (.iload_n 2, 1) := by decide +kernel
theorem d_M_coordinates_30 : decode k_M_coordinates 30 = .ok (.ifCond .ge 7, 3) := by decide +kernel
theorem d_M_coordinates_33 : decode k_M_coordinates 33 = .ok (.iconst (-1), 1) := by decide +kernel
theorem d_M_coordinates_34 : decode k_M_coordinates 34 = .ok (.goto 4, 3) := by decide +kernel
theorem d_M_coordinates_37 : decode k_M_coordinates 37 = .ok (.iload_n 1, 1) := by decide +kernel
theorem d_M_coordinates_38 : decode k_M_coordinates 38 = .ok (.ireturn, 1) := by decide +kernel
theorem d_M_rings_0 : decode k_M_rings 0 = .ok (.iconst 0, 1) := by decide +kernel
theorem d_M_rings_1 : decode k_M_rings 1 = .ok (.istore_n 1, 1) := by decide +kernel
theorem d_M_rings_2 : decode k_M_rings 2 = .ok (.iconst 1, 1) := by decide +kernel
theorem d_M_rings_3 : decode k_M_rings 3 = .ok (.istore_n 2, 1) := by decide +kernel
theorem d_M_rings_4 : decode k_M_rings 4 = .ok (.iload_n 2, 1) := by decide +kernel
theorem d_M_rings_5 : decode k_M_rings 5 = .ok (.iconst 1, 1) := by decide +kernel
theorem d_M_rings_6 : decode k_M_rings 6 = .ok (.if_icmp .ne 90, 3) := by decide +kernel
theorem d_M_rings_9 : decode k_M_rings 9 = .ok (.aload_n 0, 1) := by decide +kernel
theorem d_M_rings_10 : decode k_M_rings 10 = .ok (.invokevirtual 106, 3) := by decide +kernel
theorem d_M_rings_13 : decode k_M_rings 13 = .ok (.aload_n 0, 1) := by decide +kernel
theorem d_M_rings_14 : decode k_M_rings 14 = .ok (.iconst 1, 1) := by decide +kernel
theorem d_M_rings_15 : decode k_M_rings 15 = .ok (.iconst 0, 1) := by decide +kernel
theorem d_M_rings_16 : decode k_M_rings 16 = .ok (.invokevirtual 142, 3) := by decide +kernel
theorem d_M_rings_19 : decode k_M_rings 19 = .ok (.ifCond .ne 16, 3) := by decide +kernel
theorem d_M_rings_22 : decode k_M_rings 22 = .ok (.aload_n 0, 1) := by decide +kernel
theorem d_M_rings_23 : decode k_M_rings 23 = .ok (.bipush 7, 2) := by decide +kernel
theorem d_M_rings_25 : decode k_M_rings 25 = .ok (.aload_n 0, 1) := by decide +kernel
theorem d_M_rings_26 : decode k_M_rings 26 = .ok (.getfield 83, 3) := by decide +kernel
theorem d_M_rings_29 : decode k_M_rings 29 = .ok (.invokevirtual 102, 3) := by decide +kernel
theorem d_M_rings_32 : decode k_M_rings 32 = .ok (.pop, 1) := by decide +kernel
theorem d_M_rings_33 : decode k_M_rings 33 = .ok (.iconst (-1), 1) := by decide +kernel
theorem d_M_rings_34 : decode k_M_rings 34 = .ok (.ireturn, 1) := by decide +kernel
theorem d_M_rings_35 : decode k_M_rings 35 = .ok (.aload_n 0, 1) := by decide +kernel
theorem d_M_rings_36 : decode k_M_rings 36 = .ok (.iconst 0, 1) := by decide +kernel
end
section
theorem d_M_rings_37 : decode k_M_rings 37 = .ok (.invokevirtual 138, 3) := by decide +kernel
theorem d_M_rings_40 : decode k_M_rings 40 = .ok (.aload_n 0, 1) := by decide +kernel
theorem d_M_rings_41 : decode k_M_rings 41 = .ok (.getfield 23, 3) := by decide +kernel
theorem d_M_rings_44 : decode k_M_rings 44 = .ok (.aload_n 0, 1) := by decide +kernel
theorem d_M_rings_45 : decode k_M_rings 45 = .ok (.getfield 135, 3) := by decide +kernel
theorem d_M_rings_48 : decode k_M_rings 48 = .ok (.iaload, 1) := by decide +kernel
theorem d_M_rings_49 : decode k_M_rings 49 = .ok (.iconst 1, 1) := by decide +kernel
theorem d_M_rings_50 : decode k_M_rings 50 = .ok (.isub, 1) := by decide +kernel
theorem d_M_rings_51 : decode k_M_rings 51 = .ok (.istore_n 3, 1) := by decide +kernel
theorem d_M_rings_52 : decode k_M_rings 52 = .ok (.aload_n 0, 1) := by decide +kernel
theorem d_M_rings_53 : decode k_M_rings 53 = .ok (.bipush 40, 2) := by decide +kernel
theorem d_M_rings_55 : decode k_M_rings 55 = .ok (.invokevirtual 154, 3) := by decide +kernel
theorem d_M_rings_58 : decode k_M_rings 58 = .ok (.ifCond .eq 10, 3) := by decide +kernel
theorem d_M_rings_61 : decode k_M_rings 61 = .ok (.aload_n 0, 1) := by decide +kernel
theorem d_M_rings_62 : decode k_M_rings 62 = .ok (.invokevirtual 157, 3) := by decide +kernel
theorem d_M_rings_65 : decode k_M_rings 65 = .ok (.goto 4, 3) := by decide +kernel
theorem d_M_rings_68 : decode k_M_rings 68 = .ok (.iconst (-1), 1) := by decide +kernel
theorem d_M_rings_69 : decode k_M_rings 69 = .ok (.istore 4, 2) := by decide +kernel
theorem d_M_rings_71 : decode k_M_rings 71 = .ok (.iload 4, 2) := by decide +kernel
theorem d_M_rings_73 : decode k_M_rings 73 = .ok (.ifCond .ge 5, 3) := by decide +kernel
theorem d_M_rings_76 : decode k_M_rings 76 = .ok (.iconst (-1), 1) := by decide +kernel
theorem d_M_rings_77 : decode k_M_rings 77 = .ok (.ireturn, 1) := by decide +kernel
theorem d_M_rings_78 : decode k_M_rings 78 = .ok (.aload_n 0, 1) := by decide +kernel
theorem d_M_rings_79 : decode k_M_rings 79 = .ok (.iload_n 3, 1) := by decide +kernel
theorem d_M_rings_80 : decode k_M_rings 80 = .ok (.iload 4, 2) := by decide +kernel
theorem d_M_rings_82 : decode k_M_rings 82 = .ok (.invokevirtual 160, 3) := by decide +kernel
theorem d_M_rings_85 : decode k_M_rings 85 = .ok (.iinc 1 1, 3) := by decide +kernel
theorem d_M_rings_88 : decode k_M_rings 88 = .ok (.aload_n 0, 1) := by decide +kernel
theorem d_M_rings_89 : decode k_M_rings 89 = .ok (.invokevirtual 151, 3) := by decide +kernel
theorem d_M_rings_92 : decode k_M_rings 92 = .ok (.istore_n 2, 1) := by decide +kernel
theorem d_M_rings_93 : decode k_M_rings 93 = .ok (.goto (-89), 3) := by decide +kernel
theorem d_M_rings_96 : decode k_M_rings 96 = .ok (.iload_n 2, 1) := by decide +kernel
theorem d_M_rings_97 : decode k_M_rings 97 = .ok (.ifCond .ge 7, 3) := by decide +kernel
theorem d_M_rings_100 : decode k_M_rings 100 = .ok (.iconst (-1), 1) := by decide +kernel
theorem d_M_rings_101 : decode k_M_rings 101 = .ok (.goto 4, 3) := by decide +kernel
theorem d_M_rings_104 : decode k_M_rings 104 = .ok (.iload_n 1, 1) := by decide +kernel
theorem d_M_rings_105 : decode k_M_rings 105 = .ok (.ireturn, 1) := by decide +kernel
theorem d_M_simple_0 : decode k_M_simple 0 = .ok (.iload_n 1, 1) := by decide +kernel
theorem d_M_simple_1 : decode k_M_simple 1 = .ok (.iconst 3, 1) := by decide +kernel
theorem d_M_simple_2 : decode k_M_simple 2 = .ok (.if_icmp .ne 8, 3) := by decide +kernel
theorem d_M_simple_5 : decode k_M_simple 5 = .ok (.aload_n 0, 1) := by decide +kernel
theorem d_M_simple_6 : decode k_M_simple 6 = .ok (.invokevirtual 164, 3) := by decide +kernel
theorem d_M_simple_9 : decode k_M_simple 9 = .ok (.ireturn, 1) := by decide +kernel
theorem d_M_simple_10 : decode k_M_simple 10 = .ok (.iload_n 1, 1) := by decide +kernel
theorem d_M_simple_11 : decode k_M_simple 11 = .ok (.iconst 2, 1) := by decide +kernel
theorem d_M_simple_12 : decode k_M_simple 12 = .ok (.if_icmp .ne 8, 3) := by decide +kernel
theorem d_M_simple_15 : decode k_M_simple 15 = .ok (.aload_n 0, 1) := by decide +kernel
theorem d_M_simple_16 : decode k_M_simple 16 = .ok (.invokevirtual 157, 3) := by decide +kernel
theorem d_M_simple_19 : decode k_M_simple 19 = .ok (.ireturn, 1) := by decide +kernel
theorem d_M_simple_20 : decode k_M_simple 20 = .ok (.aload_n 0, 1) := by decide +kernel
theorem d_M_simple_21 : decode k_M_simple 21 = .ok (.invokevirtual 148, 3) := by decide +kernel
theorem d_M_simple_24 : decode k_M_simple 24 = .ok (.ifCond .eq 16, 3) := by decide +kernel
theorem d_M_simple_27 : decode k_M_simple 27 = .ok (.aload_n 0, 1) := by decide +kernel
theorem d_M_simple_28 : decode k_M_simple 28 = .ok (.bipush 41, 2) := by decide +kernel
theorem d_M_simple_30 : decode k_M_simple 30 = .ok (.invokevirtual 154, 3) := by decide +kernel
theorem d_M_simple_33 : decode k_M_simple 33 = .ok (.ifCond .eq 7, 3) := by decide +kernel
theorem d_M_simple_36 : decode k_M_simple 36 = .ok (.iconst 1, 1) := by decide +kernel
theorem d_M_simple_37 : decode k_M_simple 37 = .ok (.goto 4, 3) := by decide +kernel
theorem d_M_simple_40 : decode k_M_simple 40 = .ok (.iconst (-1), 1) := by decide +kernel
theorem d_M_simple_41 : decode k_M_simple 41 = .ok (.ireturn, 1) := by decide +kernel
theorem d_M_looked_0 : decode k_M_looked 0 = .ok (.aload_n 0, 1) := by decide +kernel
theorem d_M_looked_1 : decode k_M_looked 1 = .ok (.invokevirtual 106, 3) := by decide +kernel
theorem d_M_looked_4 : decode k_M_looked 4 = .ok (.aload_n 0, 1) := by decide +kernel
theorem d_M_looked_5 : decode k_M_looked 5 = .ok (.invokevirtual 95, 3) := by decide +kernel
theorem d_M_looked_8 : decode k_M_looked 8 = .ok (.istore_n 2, 1) := by decide +kernel
theorem d_M_looked_9 : decode k_M_looked 9 = .ok (.iload_n 2, 1) := by decide +kernel
theorem d_M_looked_10 : decode k_M_looked 10 = .ok (.bipush 40, 2) := by decide +kernel
theorem d_M_looked_12 : decode k_M_looked 12 = .ok (.if_icmp .ne 15, 3) := by decide +kernel
theorem d_M_looked_15 : decode k_M_looked 15 = .ok (.aload_n 0, 1) := by decide +kernel
theorem d_M_looked_16 : decode k_M_looked 16 = .ok (.dup, 1) := by decide +kernel
theorem d_M_looked_17 : decode k_M_looked 17 = .ok (.getfield 83, 3) := by decide +kernel
theorem d_M_looked_20 : decode k_M_looked 20 = .ok (.iconst 1, 1) := by decide +kernel
theorem d_M_looked_21 : decode k_M_looked 21 = .ok (.iadd, 1) := by decide +kernel
theorem d_M_looked_22 : decode k_M_looked 22 = .ok (.putfield 83, 3) := by decide +kernel
theorem d_M_looked_25 : decode k_M_looked 25 = .ok (.iconst 1, 1) := by decide +kernel
theorem d_M_looked_26 : decode k_M_looked 26 = .ok (.ireturn, 1) := by decide +kernel
theorem d_M_looked_27 : decode k_M_looked 27 = .ok (.iload_n 1, 1) := by decide +kernel
theorem d_M_looked_28 : decode k_M_looked 28 = .ok (.ifCond .eq 25, 3) := by decide +kernel
theorem d_M_looked_31 : decode k_M_looked 31 = .ok (.iload_n 2, 1) := by decide +kernel
theorem d_M_looked_32 : decode k_M_looked 32 = .ok (.invokestatic 80, 3) := by decide +kernel
theorem d_M_looked_35 : decode k_M_looked 35 = .ok (.ifCond .ne 16, 3) := by decide +kernel
theorem d_M_looked_38 : decode k_M_looked 38 = .ok (.iload_n 2, 1) := by decide +kernel
theorem d_M_looked_39 : decode k_M_looked 39 = .ok (.invokestatic 77, 3) := by decide +kernel
theorem d_M_looked_42 : decode k_M_looked 42 = .ok (.ifCond .ne 9, 3) := by decide +kernel
theorem d_M_looked_45 : decode k_M_looked 45 = .ok (.iload_n 2, 1) := by decide +kernel
theorem d_M_looked_46 : decode k_M_looked 46 = .ok (.bipush 46, 2) := by decide +kernel
theorem d_M_looked_48 : decode k_M_looked 48 = .ok (.if_icmp .ne 5, 3) := by decide +kernel
theorem d_M_looked_51 : decode k_M_looked 51 = .ok (.iconst 2, 1) := by decide +kernel
theorem d_M_looked_52 : decode k_M_looked 52 = .ok (.ireturn, 1) := by decide +kernel
theorem d_M_looked_53 : decode k_M_looked 53 = .ok (.iload_n 2, 1) := by decide +kernel
theorem d_M_looked_54 : decode k_M_looked 54 = .ok (.invokestatic 73, 3) := by decide +kernel
theorem d_M_looked_57 : decode k_M_looked 57 = .ok (.ifCond .ne 10, 3) := by decide +kernel
theorem d_M_looked_60 : decode k_M_looked 60 = .ok (.aload_n 0, 1) := by decide +kernel
theorem d_M_looked_61 : decode k_M_looked 61 = .ok (.invokevirtual 109, 3) := by decide +kernel
theorem d_M_looked_64 : decode k_M_looked 64 = .ok (.pop, 1) := by decide +kernel
theorem d_M_looked_65 : decode k_M_looked 65 = .ok (.iconst (-1), 1) := by decide +kernel
theorem d_M_looked_66 : decode k_M_looked 66 = .ok (.ireturn, 1) := by decide +kernel
theorem d_M_looked_67 : decode k_M_looked 67 = .ok (.aload_n 0, 1) := by decide +kernel
theorem d_M_looked_68 : decode k_M_looked 68 = .ok (.getfield 83, 3) := by decide +kernel
theorem d_M_looked_71 : decode k_M_looked 71 = .ok (.istore_n 3, 1) := by decide +kernel
theorem d_M_looked_72 : decode k_M_looked 72 = .ok (.aload_n 0, 1) := by decide +kernel
theorem d_M_looked_73 : decode k_M_looked 73 = .ok (.invokevirtual 167, 3) := by decide +kernel
theorem d_M_looked_76 : decode k_M_looked 76 = .ok (.bipush 8, 2) := by decide +kernel
theorem d_M_looked_78 : decode k_M_looked 78 = .ok (.if_icmp .ne 5, 3) := by decide +kernel
theorem d_M_looked_81 : decode k_M_looked 81 = .ok (.iconst 0, 1) := by decide +kernel
theorem d_M_looked_82 : decode k_M_looked 82 = .ok (.ireturn, 1) := by decide +kernel
theorem d_M_looked_83 : decode k_M_looked 83 = .ok (.aload_n 0, 1) := by decide +kernel
theorem d_M_looked_84 : decode k_M_looked 84 = .ok (.iconst 2, 1) := by decide +kernel
theorem d_M_looked_85 : decode k_M_looked 85 = .ok (.iload_n 3, 1) := by decide +kernel
theorem d_M_looked_86 : decode k_M_looked 86 = .ok (.invokevirtual 102, 3) := by decide +kernel
theorem d_M_looked_89 : decode k_M_looked 89 = .ok (.pop, 1) := by decide +kernel
theorem d_M_looked_90 : decode k_M_looked 90 = .ok (.iconst (-1), 1) := by decide +kernel
theorem d_M_looked_91 : decode k_M_looked 91 = .ok (.ireturn, 1) := by decide +kernel
theorem d_M_parts_0 : decode k_M_parts 0 = .ok (.iconst 0, 1) := by decide +kernel
theorem d_M_parts_1 : decode k_M_parts 1 = .ok (.istore_n 2, 1) := by decide +kernel
theorem d_M_parts_2 : decode k_M_parts 2 = .ok (.iconst 1, 1) := by decide +kernel
theorem d_M_parts_3 : decode k_M_parts 3 = .ok (.istore_n 3, 1) := by decide +kernel
theorem d_M_parts_4 : decode k_M_parts 4 = .ok (.iload_n 3, 1) := by decide +kernel
theorem d_M_parts_5 : decode k_M_parts 5 = .ok (.iconst 1, 1) := by decide +kernel
theorem d_M_parts_6 : decode k_M_parts 6 = .ok (.if_icmp .ne 126, 3) := by decide +kernel
theorem d_M_parts_9 : decode k_M_parts 9 = .ok (.aload_n 0, 1) := by decide +kernel
theorem d_M_parts_10 : decode k_M_parts 10 = .ok (.invokevirtual 106, 3) := by decide +kernel
theorem d_M_parts_13 : decode k_M_parts 13 = .ok (.aload_n 0, 1) := by decide +kernel
theorem d_M_parts_14 : decode k_M_parts 14 = .ok (.iconst 2, 1) := by decide +kernel
theorem d_M_parts_15 : decode k_M_parts 15 = .ok (.iconst 0, 1) := by decide +kernel
theorem d_M_parts_16 : decode k_M_parts 16 = .ok (.invokevirtual 142, 3) := by decide +kernel
theorem d_M_parts_19 : decode k_M_parts 19 = .ok (.ifCond .ne 16, 3) := by decide +kernel
theorem d_M_parts_22 : decode k_M_parts 22 = .ok (.aload_n 0, 1) := by decide +kernel
theorem d_M_parts_23 : decode k_M_parts 23 = .ok (.bipush 7, 2) := by decide +kernel
theorem d_M_parts_25 : decode k_M_parts 25 = .ok (.aload_n 0, 1) := by decide +kernel
theorem d_M_parts_26 : decode k_M_parts 26 = .ok (.getfield 83, 3) := by decide +kernel
theorem d_M_parts_29 : decode k_M_parts 29 = .ok (.invokevirtual 102, 3) := by decide +kernel
theorem d_M_parts_32 : decode k_M_parts 32 = .ok (.pop, 1) := by decide +kernel
theorem d_M_parts_33 : decode k_M_parts 33 = .ok (.iconst (-1), 1) := by decide +kernel
theorem d_M_parts_34 : decode k_M_parts 34 = .ok (.ireturn, 1) := by decide +kernel
theorem d_M_parts_35 : decode k_M_parts 35 = .ok (.aload_n 0, 1) := by decide +kernel
theorem d_M_parts_36 : decode k_M_parts 36 = .ok (.iload_n 1, 1) := by decide +kernel
theorem d_M_parts_37 : decode k_M_parts 37 = .ok (.iconst 3, 1) := by decide +kernel
theorem d_M_parts_38 : decode k_M_parts 38 = .ok (.isub, 1) := by decide +kernel
theorem d_M_parts_39 : decode k_M_parts 39 = .ok (.invokevirtual 170, 3) := by decide +kernel
theorem d_M_parts_42 : decode k_M_parts 42 = .ok (.istore 4, 2) := by decide +kernel
theorem d_M_parts_44 : decode k_M_parts 44 = .ok (.aload_n 0, 1) := by decide +kernel
theorem d_M_parts_45 : decode k_M_parts 45 = .ok (.iload_n 1, 1) := by decide +kernel
theorem d_M_parts_46 : decode k_M_parts 46 = .ok (.iconst 4, 1) := by decide +kernel
theorem d_M_parts_47 : decode k_M_parts 47 = .ok (.if_icmp .ne 7, 3) := by decide +kernel
theorem d_M_parts_50 : decode k_M_parts 50 = .ok (.iconst 1, 1) := by decide +kernel
theorem d_M_parts_51 : decode k_M_parts 51 = .ok (.goto 4, 3) := by decide +kernel
theorem d_M_parts_54 : decode k_M_parts 54 = .ok (.iconst 0, 1) := by decide +kernel
theorem d_M_parts_55 : decode k_M_parts 55 = .ok (.invokevirtual 173, 3) := by decide +kernel
theorem d_M_parts_58 : decode k_M_parts 58 = .ok (.istore 5, 2) := by decide +kernel
theorem d_M_parts_60 : decode k_M_parts 60 = .ok (.iload 5, 2) := by decide +kernel
theorem d_M_parts_62 : decode k_M_parts 62 = .ok (.ifCond .ge 5, 3) := by decide +kernel
theorem d_M_parts_65 : decode k_M_parts 65 = .ok (.iconst (-1), 1) := by decide +kernel
theorem d_M_parts_66 : decode k_M_parts 66 = .ok (.ireturn, 1) := by decide +kernel
theorem d_M_parts_67 : decode k_M_parts 67 = .ok (.iload 5, 2) := by decide +kernel
theorem d_M_parts_69 : decode k_M_parts 69 = .ok (.ifCond .ne 7, 3) := by decide +kernel
theorem d_M_parts_72 : decode k_M_parts 72 = .ok (.iconst 0, 1) := by decide +kernel
theorem d_M_parts_73 : decode k_M_parts 73 = .ok (.goto 31, 3) := by decide +kernel
theorem d_M_parts_76 : decode k_M_parts 76 = .ok (.iload 5, 2) := by decide +kernel
theorem d_M_parts_78 : decode k_M_parts 78 = .ok (.iconst 1, 1) := by decide +kernel
theorem d_M_parts_79 : decode k_M_parts 79 = .ok (.if_icmp .ne 13, 3) := by decide +kernel
theorem d_M_parts_82 : decode k_M_parts 82 = .ok (.aload_n 0, 1) := by decide +kernel
theorem d_M_parts_83 : decode k_M_parts 83 = .ok (.iload_n 1, 1) := by decide +kernel
theorem d_M_parts_84 : decode k_M_parts 84 = .ok (.iconst 3, 1) := by decide +kernel
theorem d_M_parts_85 : decode k_M_parts 85 = .ok (.isub, 1) := by decide +kernel
theorem d_M_parts_86 : decode k_M_parts 86 = .ok (.invokevirtual 177, 3) := by decide +kernel
theorem d_M_parts_89 : decode k_M_parts 89 = .ok (.goto 15, 3) := by decide +kernel
theorem d_M_parts_92 : decode k_M_parts 92 = .ok (.aload_n 0, 1) := by decide +kernel
theorem d_M_parts_93 : decode k_M_parts 93 = .ok (.invokevirtual 148, 3) := by decide +kernel
theorem d_M_parts_96 : decode k_M_parts 96 = .ok (.ifCond .eq 7, 3) := by decide +kernel
theorem d_M_parts_99 : decode k_M_parts 99 = .ok (.iconst 1, 1) := by decide +kernel
theorem d_M_parts_100 : decode k_M_parts 100 = .ok (.goto 4, 3) := by decide +kernel
theorem d_M_parts_103 : decode k_M_parts 103 = .ok (.iconst (-1), 1) := by decide +kernel
theorem d_M_parts_104 : decode k_M_parts 104 = .ok (.istore 6, 2) := by decide +kernel
theorem d_M_parts_106 : decode k_M_parts 106 = .ok (.iload 6, 2) := by decide +kernel
theorem d_M_parts_108 : decode k_M_parts 108 = .ok (.ifCond .ge 5, 3) := by decide +kernel
theorem d_M_parts_111 : decode k_M_parts 111 = .ok (.iconst (-1), 1) := by decide +kernel
theorem d_M_parts_112 : decode k_M_parts 112 = .ok (.ireturn, 1) := by decide +kernel
theorem d_M_parts_113 : decode k_M_parts 113 = .ok (.aload_n 0, 1) := by decide +kernel
theorem d_M_parts_114 : decode k_M_parts 114 = .ok (.iload 4, 2) := by decide +kernel
theorem d_M_parts_116 : decode k_M_parts 116 = .ok (.iload 6, 2) := by decide +kernel
theorem d_M_parts_118 : decode k_M_parts 118 = .ok (.invokevirtual 160, 3) := by decide +kernel
theorem d_M_parts_121 : decode k_M_parts 121 = .ok (.iinc 2 1, 3) := by decide +kernel
theorem d_M_parts_124 : decode k_M_parts 124 = .ok (.aload_n 0, 1) := by decide +kernel
theorem d_M_parts_125 : decode k_M_parts 125 = .ok (.invokevirtual 151, 3) := by decide +kernel
theorem d_M_parts_128 : decode k_M_parts 128 = .ok (.istore_n 3, 1) := by decide +kernel
theorem d_M_parts_129 : decode k_M_parts 129 = .ok (.goto (-125), 3) := by decide +kernel
theorem d_M_parts_132 : decode k_M_parts 132 = .ok (.iload_n 3, 1) := by decide +kernel
theorem d_M_parts_133 : decode k_M_parts 133 = .ok (.ifCond .ge 7, 3) := by decide +kernel
theorem d_M_parts_136 : decode k_M_parts 136 = .ok (.iconst (-1), 1) := by decide +kernel
theorem d_M_parts_137 : decode k_M_parts 137 = .ok (.goto 4, 3) := by decide +kernel
theorem d_M_parts_140 : decode k_M_parts 140 = .ok (.iload_n 2, 1) := by decide +kernel
theorem d_M_parts_141 : decode k_M_parts 141 = .ok (.ireturn, 1) := by decide +kernel
theorem d_M_shape_0 : decode k_M_shape 0 = .ok (.aload_n 0, 1) := by decide +kernel
theorem d_M_shape_1 : decode k_M_shape 1 = .ok (.invokevirtual 106, 3) := by decide +kernel
theorem d_M_shape_4 : decode k_M_shape 4 = .ok (.aload_n 0, 1) := by decide +kernel
theorem d_M_shape_5 : decode k_M_shape 5 = .ok (.getfield 83, 3) := by decide +kernel
theorem d_M_shape_8 : decode k_M_shape 8 = .ok (.istore_n 2, 1) := by decide +kernel
theorem d_M_shape_9 : decode k_M_shape 9 = .ok (.aload_n 0, 1) := by decide +kernel
theorem d_M_shape_10 : decode k_M_shape 10 = .ok (.invokevirtual 95, 3) := by decide +kernel
theorem d_M_shape_13 : decode k_M_shape 13 = .ok (.invokestatic 73, 3) := by decide +kernel
theorem d_M_shape_16 : decode k_M_shape 16 = .ok (.ifCond .ne 10, 3) := by decide +kernel
theorem d_M_shape_19 : decode k_M_shape 19 = .ok (.aload_n 0, 1) := by decide +kernel
theorem d_M_shape_20 : decode k_M_shape 20 = .ok (.invokevirtual 109, 3) := by decide +kernel
theorem d_M_shape_23 : decode k_M_shape 23 = .ok (.pop, 1) := by decide +kernel
theorem d_M_shape_24 : decode k_M_shape 24 = .ok (.iconst (-1), 1) := by decide +kernel
theorem d_M_shape_25 : decode k_M_shape 25 = .ok (.ireturn, 1) := by decide +kernel
theorem d_M_shape_26 : decode k_M_shape 26 = .ok (.aload_n 0, 1) := by decide +kernel
theorem d_M_shape_27 : decode k_M_shape 27 = .ok (.invokevirtual 167, 3) := by decide +kernel
theorem d_M_shape_30 : decode k_M_shape 30 = .ok (.istore_n 3, 1) := by decide +kernel
theorem d_M_shape_31 : decode k_M_shape 31 = .ok (.iload_n 3, 1) := by decide +kernel
theorem d_M_shape_32 : decode k_M_shape 32 = .ok (.ifCond .eq 9, 3) := by decide +kernel
theorem d_M_shape_35 : decode k_M_shape 35 = .ok (.iload_n 3, 1) := by decide +kernel
theorem d_M_shape_36 : decode k_M_shape 36 = .ok (.bipush 8, 2) := by decide +kernel
theorem d_M_shape_38 : decode k_M_shape 38 = .ok (.if_icmp .ne 13, 3) := by decide +kernel
theorem d_M_shape_41 : decode k_M_shape 41 = .ok (.aload_n 0, 1) := by decide +kernel
theorem d_M_shape_42 : decode k_M_shape 42 = .ok (.iconst 2, 1) := by decide +kernel
theorem d_M_shape_43 : decode k_M_shape 43 = .ok (.iload_n 2, 1) := by decide +kernel
theorem d_M_shape_44 : decode k_M_shape 44 = .ok (.invokevirtual 102, 3) := by decide +kernel
theorem d_M_shape_47 : decode k_M_shape 47 = .ok (.pop, 1) := by decide +kernel
theorem d_M_shape_48 : decode k_M_shape 48 = .ok (.goto 23, 3) := by decide +kernel
theorem d_M_shape_51 : decode k_M_shape 51 = .ok (.iload_n 3, 1) := by decide +kernel
theorem d_M_shape_52 : decode k_M_shape 52 = .ok (.bipush 7, 2) := by decide +kernel
theorem d_M_shape_54 : decode k_M_shape 54 = .ok (.if_icmp .ne 17, 3) := by decide +kernel
theorem d_M_shape_57 : decode k_M_shape 57 = .ok (.iload_n 1, 1) := by decide +kernel
theorem d_M_shape_58 : decode k_M_shape 58 = .ok (.bipush 50, 2) := by decide +kernel
theorem d_M_shape_60 : decode k_M_shape 60 = .ok (.if_icmp .lt 11, 3) := by decide +kernel
theorem d_M_shape_63 : decode k_M_shape 63 = .ok (.aload_n 0, 1) := by decide +kernel
theorem d_M_shape_64 : decode k_M_shape 64 = .ok (.bipush 6, 2) := by decide +kernel
theorem d_M_shape_66 : decode k_M_shape 66 = .ok (.iload_n 2, 1) := by decide +kernel
theorem d_M_shape_67 : decode k_M_shape 67 = .ok (.invokevirtual 102, 3) := by decide +kernel
theorem d_M_shape_70 : decode k_M_shape 70 = .ok (.pop, 1) := by decide +kernel
theorem d_M_shape_71 : decode k_M_shape 71 = .ok (.aload_n 0, 1) := by decide +kernel
theorem d_M_shape_72 : decode k_M_shape 72 = .ok (.getfield 89, 3) := by decide +kernel
theorem d_M_shape_75 : decode k_M_shape 75 = .ok (.ifCond .le 5, 3) := by decide +kernel
theorem d_M_shape_78 : decode k_M_shape 78 = .ok (.iconst (-1), 1) := by decide +kernel
theorem d_M_shape_79 : decode k_M_shape 79 = .ok (.ireturn, 1) := by decide +kernel
theorem d_M_shape_80 : decode k_M_shape 80 = .ok (.aload_n 0, 1) := by decide +kernel
theorem d_M_shape_81 : decode k_M_shape 81 = .ok (.invokevirtual 106, 3) := by decide +kernel
theorem d_M_shape_84 : decode k_M_shape 84 = .ok (.aload_n 0, 1) := by decide +kernel
theorem d_M_shape_85 : decode k_M_shape 85 = .ok (.iconst 2, 1) := by decide +kernel
theorem d_M_shape_86 : decode k_M_shape 86 = .ok (.iconst 0, 1) := by decide +kernel
theorem d_M_shape_87 : decode k_M_shape 87 = .ok (.invokevirtual 142, 3) := by decide +kernel
theorem d_M_shape_90 : decode k_M_shape 90 = .ok (.ifCond .ne 14, 3) := by decide +kernel
theorem d_M_shape_93 : decode k_M_shape 93 = .ok (.aload_n 0, 1) := by decide +kernel
theorem d_M_shape_94 : decode k_M_shape 94 = .ok (.bipush 7, 2) := by decide +kernel
theorem d_M_shape_96 : decode k_M_shape 96 = .ok (.aload_n 0, 1) := by decide +kernel
theorem d_M_shape_97 : decode k_M_shape 97 = .ok (.getfield 83, 3) := by decide +kernel
theorem d_M_shape_100 : decode k_M_shape 100 = .ok (.invokevirtual 102, 3) := by decide +kernel
theorem d_M_shape_103 : decode k_M_shape 103 = .ok (.pop, 1) := by decide +kernel
theorem d_M_shape_104 : decode k_M_shape 104 = .ok (.aload_n 0, 1) := by decide +kernel
theorem d_M_shape_105 : decode k_M_shape 105 = .ok (.getfield 89, 3) := by decide +kernel
theorem d_M_shape_108 : decode k_M_shape 108 = .ok (.ifCond .le 7, 3) := by decide +kernel
theorem d_M_shape_111 : decode k_M_shape 111 = .ok (.iconst 0, 1) := by decide +kernel
theorem d_M_shape_112 : decode k_M_shape 112 = .ok (.goto 8, 3) := by decide +kernel
theorem d_M_shape_115 : decode k_M_shape 115 = .ok (.aload_n 0, 1) := by decide +kernel
theorem d_M_shape_116 : decode k_M_shape 116 = .ok (.iload_n 3, 1) := by decide +kernel
theorem d_M_shape_117 : decode k_M_shape 117 = .ok (.invokevirtual 170, 3) := by decide +kernel
theorem d_M_shape_120 : decode k_M_shape 120 = .ok (.istore 4, 2) := by decide +kernel
theorem d_M_shape_122 : decode k_M_shape 122 = .ok (.aload_n 0, 1) := by decide +kernel
theorem d_M_shape_123 : decode k_M_shape 123 = .ok (.getfield 89, 3) := by decide +kernel
theorem d_M_shape_126 : decode k_M_shape 126 = .ok (.ifCond .le 7, 3) := by decide +kernel
theorem d_M_shape_129 : decode k_M_shape 129 = .ok (.iconst (-1), 1) := by decide +kernel
theorem d_M_shape_130 : decode k_M_shape 130 = .ok (.goto 8, 3) := by decide +kernel
theorem d_M_shape_133 : decode k_M_shape 133 = .ok (.aload_n 0, 1) := by decide +kernel
theorem d_M_shape_134 : decode k_M_shape 134 = .ok (.iconst 0, 1) := by decide +kernel
theorem d_M_shape_135 : decode k_M_shape 135 = .ok (.invokevirtual 173, 3) := by decide +kernel
theorem d_M_shape_138 : decode k_M_shape 138 = .ok (.istore 5, 2) := by decide +kernel
theorem d_M_shape_140 : decode k_M_shape 140 = .ok (.iload 5, 2) := by decide +kernel
theorem d_M_shape_142 : decode k_M_shape 142 = .ok (.iconst 1, 1) := by decide +kernel
theorem d_M_shape_143 : decode k_M_shape 143 = .ok (.if_icmp .ge 14, 3) := by decide +kernel
theorem d_M_shape_146 : decode k_M_shape 146 = .ok (.iload 5, 2) := by decide +kernel
theorem d_M_shape_148 : decode k_M_shape 148 = .ok (.ifCond .ge 7, 3) := by decide +kernel
theorem d_M_shape_151 : decode k_M_shape 151 = .ok (.iconst (-1), 1) := by decide +kernel
theorem d_M_shape_152 : decode k_M_shape 152 = .ok (.goto 4, 3) := by decide +kernel
theorem d_M_shape_155 : decode k_M_shape 155 = .ok (.iload_n 1, 1) := by decide +kernel
theorem d_M_shape_156 : decode k_M_shape 156 = .ok (.ireturn, 1) := by decide +kernel
theorem d_M_shape_157 : decode k_M_shape 157 = .ok (.iload_n 3, 1) := by decide +kernel
theorem d_M_shape_158 : decode k_M_shape 158 = .ok (.bipush 7, 2) := by decide +kernel
theorem d_M_shape_160 : decode k_M_shape 160 = .ok (.if_icmp .ne 22, 3) := by decide +kernel
theorem d_M_shape_163 : decode k_M_shape 163 = .ok (.aload_n 0, 1) := by decide +kernel
theorem d_M_shape_164 : decode k_M_shape 164 = .ok (.getfield 40, 3) := by decide +kernel
theorem d_M_shape_167 : decode k_M_shape 167 = .ok (.iload_n 1, 1) := by decide +kernel
theorem d_M_shape_168 : decode k_M_shape 168 = .ok (.iload 4, 2) := by decide +kernel
theorem d_M_shape_170 : decode k_M_shape 170 = .ok (.iastore, 1) := by decide +kernel
theorem d_M_shape_171 : decode k_M_shape 171 = .ok (.aload_n 0, 1) := by decide +kernel
theorem d_M_shape_172 : decode k_M_shape 172 = .ok (.getfield 43, 3) := by decide +kernel
theorem d_M_shape_175 : decode k_M_shape 175 = .ok (.iload_n 1, 1) := by decide +kernel
theorem d_M_shape_176 : decode k_M_shape 176 = .ok (.iconst 0, 1) := by decide +kernel
theorem d_M_shape_177 : decode k_M_shape 177 = .ok (.iastore, 1) := by decide +kernel
theorem d_M_shape_178 : decode k_M_shape 178 = .ok (.iload_n 1, 1) := by decide +kernel
theorem d_M_shape_179 : decode k_M_shape 179 = .ok (.iconst 1, 1) := by decide +kernel
theorem d_M_shape_180 : decode k_M_shape 180 = .ok (.iadd, 1) := by decide +kernel
theorem d_M_shape_181 : decode k_M_shape 181 = .ok (.ireturn, 1) := by decide +kernel
theorem d_M_shape_182 : decode k_M_shape 182 = .ok (.iload_n 3, 1) := by decide +kernel
theorem d_M_shape_183 : decode k_M_shape 183 = .ok (.iconst 4, 1) := by decide +kernel
theorem d_M_shape_184 : decode k_M_shape 184 = .ok (.if_icmp .ge 11, 3) := by decide +kernel
theorem d_M_shape_187 : decode k_M_shape 187 = .ok (.aload_n 0, 1) := by decide +kernel
theorem d_M_shape_188 : decode k_M_shape 188 = .ok (.iload_n 3, 1) := by decide +kernel
theorem d_M_shape_189 : decode k_M_shape 189 = .ok (.invokevirtual 177, 3) := by decide +kernel
theorem d_M_shape_192 : decode k_M_shape 192 = .ok (.goto 8, 3) := by decide +kernel
theorem d_M_shape_195 : decode k_M_shape 195 = .ok (.aload_n 0, 1) := by decide +kernel
theorem d_M_shape_196 : decode k_M_shape 196 = .ok (.iload_n 3, 1) := by decide +kernel
theorem d_M_shape_197 : decode k_M_shape 197 = .ok (.invokevirtual 180, 3) := by decide +kernel
theorem d_M_shape_200 : decode k_M_shape 200 = .ok (.istore 6, 2) := by decide +kernel
theorem d_M_shape_202 : decode k_M_shape 202 = .ok (.iload 6, 2) := by decide +kernel
theorem d_M_shape_204 : decode k_M_shape 204 = .ok (.ifCond .ge 5, 3) := by decide +kernel
theorem d_M_shape_207 : decode k_M_shape 207 = .ok (.iconst (-1), 1) := by decide +kernel
theorem d_M_shape_208 : decode k_M_shape 208 = .ok (.ireturn, 1) := by decide +kernel
theorem d_M_shape_209 : decode k_M_shape 209 = .ok (.aload_n 0, 1) := by decide +kernel
theorem d_M_shape_210 : decode k_M_shape 210 = .ok (.iload 4, 2) := by decide +kernel
theorem d_M_shape_212 : decode k_M_shape 212 = .ok (.iload 6, 2) := by decide +kernel
theorem d_M_shape_214 : decode k_M_shape 214 = .ok (.invokevirtual 160, 3) := by decide +kernel
theorem d_M_shape_217 : decode k_M_shape 217 = .ok (.iload_n 1, 1) := by decide +kernel
theorem d_M_shape_218 : decode k_M_shape 218 = .ok (.ireturn, 1) := by decide +kernel
theorem d_M_readAll_0 : decode k_M_readAll 0 = .ok (.iconst 0, 1) := by decide +kernel
theorem d_M_readAll_1 : decode k_M_readAll 1 = .ok (.istore_n 1, 1) := by decide +kernel
theorem d_M_readAll_2 : decode k_M_readAll 2 = .ok (.iconst 1, 1) := by decide +kernel
theorem d_M_readAll_3 : decode k_M_readAll 3 = .ok (.istore_n 2, 1) := by decide +kernel
theorem d_M_readAll_4 : decode k_M_readAll 4 = .ok (.iload_n 2, 1) := by decide +kernel
theorem d_M_readAll_5 : decode k_M_readAll 5 = .ok (.ifCond .eq 116, 3) := by decide +kernel
theorem d_M_readAll_8 : decode k_M_readAll 8 = .ok (.iload_n 1, 1) := by decide +kernel
theorem d_M_readAll_9 : decode k_M_readAll 9 = .ok (.istore_n 3, 1) := by decide +kernel
theorem d_M_readAll_10 : decode k_M_readAll 10 = .ok (.aload_n 0, 1) := by decide +kernel
theorem d_M_readAll_11 : decode k_M_readAll 11 = .ok (.iload_n 3, 1) := by decide +kernel
theorem d_M_readAll_12 : decode k_M_readAll 12 = .ok (.invokevirtual 183, 3) := by decide +kernel
theorem d_M_readAll_15 : decode k_M_readAll 15 = .ok (.istore_n 1, 1) := by decide +kernel
theorem d_M_readAll_16 : decode k_M_readAll 16 = .ok (.iload_n 1, 1) := by decide +kernel
theorem d_M_readAll_17 : decode k_M_readAll 17 = .ok (.ifCond .ge 5, 3) := by decide +kernel
theorem d_M_readAll_20 : decode k_M_readAll 20 = .ok (.iconst 0, 1) := by decide +kernel
theorem d_M_readAll_21 : decode k_M_readAll 21 = .ok (.ireturn, 1) := by decide +kernel
theorem d_M_readAll_22 : decode k_M_readAll 22 = .ok (.iload_n 1, 1) := by decide +kernel
theorem d_M_readAll_23 : decode k_M_readAll 23 = .ok (.iload_n 3, 1) := by decide +kernel
theorem d_M_readAll_24 : decode k_M_readAll 24 = .ok (.if_icmp .ne 7, 3) := by decide +kernel
theorem d_M_readAll_27 : decode k_M_readAll 27 = .ok (.iconst 1, 1) := by decide +kernel
theorem d_M_readAll_28 : decode k_M_readAll 28 = .ok (.goto 4, 3) := by decide +kernel
theorem d_M_readAll_31 : decode k_M_readAll 31 = .ok (.iconst 0, 1) := by decide +kernel
theorem d_M_readAll_32 : decode k_M_readAll 32 = .ok (.istore 4, 2) := by decide +kernel
theorem d_M_readAll_34 : decode k_M_readAll 34 = .ok (.iload 4, 2) := by decide +kernel
theorem d_M_readAll_36 : decode k_M_readAll 36 = .ok (.ifCond .eq 71, 3) := by decide +kernel
theorem d_M_readAll_39 : decode k_M_readAll 39 = .ok (.iload_n 1, 1) := by decide +kernel
theorem d_M_readAll_40 : decode k_M_readAll 40 = .ok (.ifCond .le 67, 3) := by decide +kernel
theorem d_M_readAll_43 : decode k_M_readAll 43 = .ok (.aload_n 0, 1) := by decide +kernel
theorem d_M_readAll_44 : decode k_M_readAll 44 = .ok (.getfield 43, 3) := by decide +kernel
theorem d_M_readAll_47 : decode k_M_readAll 47 = .ok (.iload_n 1, 1) := by decide +kernel
theorem d_M_readAll_48 : decode k_M_readAll 48 = .ok (.iconst 1, 1) := by decide +kernel
theorem d_M_readAll_49 : decode k_M_readAll 49 = .ok (.isub, 1) := by decide +kernel
theorem d_M_readAll_50 : decode k_M_readAll 50 = .ok (.dup2, 1) := by decide +kernel
theorem d_M_readAll_51 : decode k_M_readAll 51 = .ok (.iaload, 1) := by decide +kernel
theorem d_M_readAll_52 : decode k_M_readAll 52 = .ok (.iconst 1, 1) := by decide +kernel
theorem d_M_readAll_53 : decode k_M_readAll 53 = .ok (.iadd, 1) := by decide +kernel
theorem d_M_readAll_54 : decode k_M_readAll 54 = .ok (.iastore, 1) := by decide +kernel
theorem d_M_readAll_55 : decode k_M_readAll 55 = .ok (.aload_n 0, 1) := by decide +kernel
theorem d_M_readAll_56 : decode k_M_readAll 56 = .ok (.invokevirtual 151, 3) := by decide +kernel
theorem d_M_readAll_59 : decode k_M_readAll 59 = .ok (.istore 5, 2) := by decide +kernel
theorem d_M_readAll_61 : decode k_M_readAll 61 = .ok (.iload 5, 2) := by decide +kernel
theorem d_M_readAll_63 : decode k_M_readAll 63 = .ok (.ifCond .ge 5, 3) := by decide +kernel
theorem d_M_readAll_66 : decode k_M_readAll 66 = .ok (.iconst 0, 1) := by decide +kernel
theorem d_M_readAll_67 : decode k_M_readAll 67 = .ok (.ireturn, 1) := by decide +kernel
theorem d_M_readAll_68 : decode k_M_readAll 68 = .ok (.iload 5, 2) := by decide +kernel
theorem d_M_readAll_70 : decode k_M_readAll 70 = .ok (.ifCond .ne 7, 3) := by decide +kernel
theorem d_M_readAll_73 : decode k_M_readAll 73 = .ok (.iconst 1, 1) := by decide +kernel
theorem d_M_readAll_74 : decode k_M_readAll 74 = .ok (.goto 4, 3) := by decide +kernel
theorem d_M_readAll_77 : decode k_M_readAll 77 = .ok (.iconst 0, 1) := by decide +kernel
theorem d_M_readAll_78 : decode k_M_readAll 78 = .ok (.istore 4, 2) := by decide +kernel
theorem d_M_readAll_80 : decode k_M_readAll 80 = .ok (.iload 4, 2) := by decide +kernel
theorem d_M_readAll_82 : decode k_M_readAll 82 = .ok (.ifCond .eq 22, 3) := by decide +kernel
theorem d_M_readAll_85 : decode k_M_readAll 85 = .ok (.iinc 1 (-1), 3) := by decide +kernel
theorem d_M_readAll_88 : decode k_M_readAll 88 = .ok (.aload_n 0, 1) := by decide +kernel
theorem d_M_readAll_89 : decode k_M_readAll 89 = .ok (.aload_n 0, 1) := by decide +kernel
theorem d_M_readAll_90 : decode k_M_readAll 90 = .ok (.getfield 40, 3) := by decide +kernel
theorem d_M_readAll_93 : decode k_M_readAll 93 = .ok (.iload_n 1, 1) := by decide +kernel
theorem d_M_readAll_94 : decode k_M_readAll 94 = .ok (.iaload, 1) := by decide +kernel
theorem d_M_readAll_95 : decode k_M_readAll 95 = .ok (.aload_n 0, 1) := by decide +kernel
theorem d_M_readAll_96 : decode k_M_readAll 96 = .ok (.getfield 43, 3) := by decide +kernel
theorem d_M_readAll_99 : decode k_M_readAll 99 = .ok (.iload_n 1, 1) := by decide +kernel
theorem d_M_readAll_100 : decode k_M_readAll 100 = .ok (.iaload, 1) := by decide +kernel
theorem d_M_readAll_101 : decode k_M_readAll 101 = .ok (.invokevirtual 160, 3) := by decide +kernel
theorem d_M_readAll_104 : decode k_M_readAll 104 = .ok (.goto (-70), 3) := by decide +kernel
theorem d_M_readAll_107 : decode k_M_readAll 107 = .ok (.iload 4, 2) := by decide +kernel
theorem d_M_readAll_109 : decode k_M_readAll 109 = .ok (.ifCond .ne 7, 3) := by decide +kernel
theorem d_M_readAll_112 : decode k_M_readAll 112 = .ok (.iconst 1, 1) := by decide +kernel
theorem d_M_readAll_113 : decode k_M_readAll 113 = .ok (.goto 4, 3) := by decide +kernel
theorem d_M_readAll_116 : decode k_M_readAll 116 = .ok (.iconst 0, 1) := by decide +kernel
theorem d_M_readAll_117 : decode k_M_readAll 117 = .ok (.istore_n 2, 1) := by decide +kernel
theorem d_M_readAll_118 : decode k_M_readAll 118 = .ok (.goto (-114), 3) := by decide +kernel
theorem d_M_readAll_121 : decode k_M_readAll 121 = .ok (.aload_n 0, 1) := by decide +kernel
theorem d_M_readAll_122 : decode k_M_readAll 122 = .ok (.invokevirtual 106, 3) := by decide +kernel
theorem d_M_readAll_125 : decode k_M_readAll 125 = .ok (.aload_n 0, 1) := by decide +kernel
theorem d_M_readAll_126 : decode k_M_readAll 126 = .ok (.getfield 83, 3) := by decide +kernel
theorem d_M_readAll_129 : decode k_M_readAll 129 = .ok (.aload_n 0, 1) := by decide +kernel
theorem d_M_readAll_130 : decode k_M_readAll 130 = .ok (.getfield 66, 3) := by decide +kernel
theorem d_M_readAll_133 : decode k_M_readAll 133 = .ok (.if_icmp .eq 16, 3) := by decide +kernel
theorem d_M_readAll_136 : decode k_M_readAll 136 = .ok (.aload_n 0, 1) := by decide +kernel
theorem d_M_readAll_137 : decode k_M_readAll 137 = .ok (.bipush 8, 2) := by decide +kernel
theorem d_M_readAll_139 : decode k_M_readAll 139 = .ok (.aload_n 0, 1) := by decide +kernel
theorem d_M_readAll_140 : decode k_M_readAll 140 = .ok (.getfield 83, 3) := by decide +kernel
theorem d_M_readAll_143 : decode k_M_readAll 143 = .ok (.invokevirtual 102, 3) := by decide +kernel
theorem d_M_readAll_146 : decode k_M_readAll 146 = .ok (.ifCond .eq 7, 3) := by decide +kernel
theorem d_M_readAll_149 : decode k_M_readAll 149 = .ok (.iconst 1, 1) := by decide +kernel
theorem d_M_readAll_150 : decode k_M_readAll 150 = .ok (.goto 4, 3) := by decide +kernel
theorem d_M_readAll_153 : decode k_M_readAll 153 = .ok (.iconst 0, 1) := by decide +kernel
theorem d_M_readAll_154 : decode k_M_readAll 154 = .ok (.ireturn, 1) := by decide +kernel
theorem d_M_read_0 : decode k_M_read 0 = .ok (.aload_n 0, 1) := by decide +kernel
theorem d_M_read_1 : decode k_M_read 1 = .ok (.iconst 0, 1) := by decide +kernel
theorem d_M_read_2 : decode k_M_read 2 = .ok (.putfield 59, 3) := by decide +kernel
theorem d_M_read_5 : decode k_M_read 5 = .ok (.iload_n 1, 1) := by decide +kernel
theorem d_M_read_6 : decode k_M_read 6 = .ok (.invokestatic 186, 3) := by decide +kernel
theorem d_M_read_9 : decode k_M_read 9 = .ok (.ifCond .ne 14, 3) := by decide +kernel
theorem d_M_read_12 : decode k_M_read 12 = .ok (.aload_n 0, 1) := by decide +kernel
theorem d_M_read_13 : decode k_M_read 13 = .ok (.iconst 0, 1) := by decide +kernel
theorem d_M_read_14 : decode k_M_read 14 = .ok (.putfield 66, 3) := by decide +kernel
theorem d_M_read_17 : decode k_M_read 17 = .ok (.aload_n 0, 1) := by decide +kernel
theorem d_M_read_18 : decode k_M_read 18 = .ok (.iconst 1, 1) := by decide +kernel
theorem d_M_read_19 : decode k_M_read 19 = .ok (.invokevirtual 69, 3) := by decide +kernel
theorem d_M_read_22 : decode k_M_read 22 = .ok (.ireturn, 1) := by decide +kernel
theorem d_M_read_23 : decode k_M_read 23 = .ok (.aload_n 0, 1) := by decide +kernel
theorem d_M_read_24 : decode k_M_read 24 = .ok (.iload_n 1, 1) := by decide +kernel
theorem d_M_read_25 : decode k_M_read 25 = .ok (.putfield 135, 3) := by decide +kernel
theorem d_M_read_28 : decode k_M_read 28 = .ok (.aload_n 0, 1) := by decide +kernel
theorem d_M_read_29 : decode k_M_read 29 = .ok (.iconst 0, 1) := by decide +kernel
theorem d_M_read_30 : decode k_M_read 30 = .ok (.putfield 83, 3) := by decide +kernel
theorem d_M_read_33 : decode k_M_read 33 = .ok (.aload_n 0, 1) := by decide +kernel
theorem d_M_read_34 : decode k_M_read 34 = .ok (.iconst 0, 1) := by decide +kernel
theorem d_M_read_35 : decode k_M_read 35 = .ok (.putfield 89, 3) := by decide +kernel
theorem d_M_read_38 : decode k_M_read 38 = .ok (.aload_n 0, 1) := by decide +kernel
theorem d_M_read_39 : decode k_M_read 39 = .ok (.iconst 0, 1) := by decide +kernel
theorem d_M_read_40 : decode k_M_read 40 = .ok (.putfield 92, 3) := by decide +kernel
theorem d_M_read_43 : decode k_M_read 43 = .ok (.aload_n 0, 1) := by decide +kernel
theorem d_M_read_44 : decode k_M_read 44 = .ok (.getfield 23, 3) := by decide +kernel
theorem d_M_read_47 : decode k_M_read 47 = .ok (.iload_n 1, 1) := by decide +kernel
theorem d_M_read_48 : decode k_M_read 48 = .ok (.iconst 0, 1) := by decide +kernel
theorem d_M_read_49 : decode k_M_read 49 = .ok (.iastore, 1) := by decide +kernel
theorem d_M_read_50 : decode k_M_read 50 = .ok (.aload_n 0, 1) := by decide +kernel
theorem d_M_read_51 : decode k_M_read 51 = .ok (.getfield 30, 3) := by decide +kernel
theorem d_M_read_54 : decode k_M_read 54 = .ok (.iload_n 1, 1) := by decide +kernel
theorem d_M_read_55 : decode k_M_read 55 = .ok (.iconst 0, 1) := by decide +kernel
theorem d_M_read_56 : decode k_M_read 56 = .ok (.iastore, 1) := by decide +kernel
theorem d_M_read_57 : decode k_M_read 57 = .ok (.aload_n 0, 1) := by decide +kernel
theorem d_M_read_58 : decode k_M_read 58 = .ok (.invokevirtual 189, 3) := by decide +kernel
theorem d_M_read_61 : decode k_M_read 61 = .ok (.istore_n 2, 1) := by decide +kernel
theorem d_M_read_62 : decode k_M_read 62 = .ok (.aload_n 0, 1) := by decide +kernel
theorem d_M_read_63 : decode k_M_read 63 = .ok (.iconst 0, 1) := by decide +kernel
theorem d_M_read_64 : decode k_M_read 64 = .ok (.putfield 66, 3) := by decide +kernel
theorem d_M_read_67 : decode k_M_read 67 = .ok (.iload_n 2, 1) := by decide +kernel
theorem d_M_read_68 : decode k_M_read 68 = .ok (.ifCond .eq 14, 3) := by decide +kernel
theorem d_M_read_71 : decode k_M_read 71 = .ok (.aload_n 0, 1) := by decide +kernel
theorem d_M_read_72 : decode k_M_read 72 = .ok (.getfield 20, 3) := by decide +kernel
theorem d_M_read_75 : decode k_M_read 75 = .ok (.sipush 4096, 3) := by decide +kernel
theorem d_M_read_78 : decode k_M_read 78 = .ok (.iload_n 1, 1) := by decide +kernel
theorem d_M_read_79 : decode k_M_read 79 = .ok (.imul, 1) := by decide +kernel
theorem d_M_read_80 : decode k_M_read 80 = .ok (.iaload, 1) := by decide +kernel
theorem d_M_read_81 : decode k_M_read 81 = .ok (.ireturn, 1) := by decide +kernel
theorem d_M_read_82 : decode k_M_read 82 = .ok (.aload_n 0, 1) := by decide +kernel
theorem d_M_read_83 : decode k_M_read 83 = .ok (.getfield 23, 3) := by decide +kernel
theorem d_M_read_86 : decode k_M_read 86 = .ok (.iload_n 1, 1) := by decide +kernel
theorem d_M_read_87 : decode k_M_read 87 = .ok (.iconst 0, 1) := by decide +kernel
theorem d_M_read_88 : decode k_M_read 88 = .ok (.iastore, 1) := by decide +kernel
theorem d_M_read_89 : decode k_M_read 89 = .ok (.aload_n 0, 1) := by decide +kernel
theorem d_M_read_90 : decode k_M_read 90 = .ok (.getfield 30, 3) := by decide +kernel
theorem d_M_read_93 : decode k_M_read 93 = .ok (.iload_n 1, 1) := by decide +kernel
theorem d_M_read_94 : decode k_M_read 94 = .ok (.iconst 0, 1) := by decide +kernel
theorem d_M_read_95 : decode k_M_read 95 = .ok (.iastore, 1) := by decide +kernel
theorem d_M_read_96 : decode k_M_read 96 = .ok (.aload_n 0, 1) := by decide +kernel
theorem d_M_read_97 : decode k_M_read 97 = .ok (.iconst 2, 1) := by decide +kernel
theorem d_M_read_98 : decode k_M_read 98 = .ok (.invokevirtual 69, 3) := by decide +kernel
theorem d_M_read_101 : decode k_M_read 101 = .ok (.ireturn, 1) := by decide +kernel
theorem d_M_fault_0 : decode k_M_fault 0 = .ok (.aload_n 0, 1) := by decide +kernel
theorem d_M_fault_1 : decode k_M_fault 1 = .ok (.iconst 0, 1) := by decide +kernel
theorem d_M_fault_2 : decode k_M_fault 2 = .ok (.putfield 59, 3) := by decide +kernel
theorem d_M_fault_5 : decode k_M_fault 5 = .ok (.iload_n 1, 1) := by decide +kernel
theorem d_M_fault_6 : decode k_M_fault 6 = .ok (.iconst 0, 1) := by decide +kernel
theorem d_M_fault_7 : decode k_M_fault 7 = .ok (.iconst 1, 1) := by decide +kernel
theorem d_M_fault_8 : decode k_M_fault 8 = .ok (.invokestatic 62, 3) := by decide +kernel
theorem d_M_fault_11 : decode k_M_fault 11 = .ok (.ifCond .eq 21, 3) := by decide +kernel
theorem d_M_fault_14 : decode k_M_fault 14 = .ok (.iload_n 1, 1) := by decide +kernel
theorem d_M_fault_15 : decode k_M_fault 15 = .ok (.ifCond .ne 10, 3) := by decide +kernel
theorem d_M_fault_18 : decode k_M_fault 18 = .ok (.aload_n 0, 1) := by decide +kernel
theorem d_M_fault_19 : decode k_M_fault 19 = .ok (.getfield 89, 3) := by decide +kernel
theorem d_M_fault_22 : decode k_M_fault 22 = .ok (.goto 15, 3) := by decide +kernel
theorem d_M_fault_25 : decode k_M_fault 25 = .ok (.aload_n 0, 1) := by decide +kernel
theorem d_M_fault_26 : decode k_M_fault 26 = .ok (.getfield 92, 3) := by decide +kernel
theorem d_M_fault_29 : decode k_M_fault 29 = .ok (.goto 8, 3) := by decide +kernel
theorem d_M_fault_32 : decode k_M_fault 32 = .ok (.aload_n 0, 1) := by decide +kernel
theorem d_M_fault_33 : decode k_M_fault 33 = .ok (.iconst 1, 1) := by decide +kernel
theorem d_M_fault_34 : decode k_M_fault 34 = .ok (.invokevirtual 69, 3) := by decide +kernel
theorem d_M_fault_37 : decode k_M_fault 37 = .ok (.ireturn, 1) := by decide +kernel
theorem d_M_put_0 : decode k_M_put 0 = .ok (.aload_n 0, 1) := by decide +kernel
theorem d_M_put_1 : decode k_M_put 1 = .ok (.getfield 192, 3) := by decide +kernel
theorem d_M_put_4 : decode k_M_put 4 = .ok (.ldc 33, 2) := by decide +kernel
theorem d_M_put_6 : decode k_M_put 6 = .ok (.if_icmp .ge 13, 3) := by decide +kernel
theorem d_M_put_9 : decode k_M_put 9 = .ok (.aload_n 0, 1) := by decide +kernel
theorem d_M_put_10 : decode k_M_put 10 = .ok (.getfield 37, 3) := by decide +kernel
theorem d_M_put_13 : decode k_M_put 13 = .ok (.aload_n 0, 1) := by decide +kernel
theorem d_M_put_14 : decode k_M_put 14 = .ok (.getfield 192, 3) := by decide +kernel
theorem d_M_put_17 : decode k_M_put 17 = .ok (.iload_n 1, 1) := by decide +kernel
theorem d_M_put_18 : decode k_M_put 18 = .ok (.iastore, 1) := by decide +kernel
theorem d_M_put_19 : decode k_M_put 19 = .ok (.aload_n 0, 1) := by decide +kernel
theorem d_M_put_20 : decode k_M_put 20 = .ok (.dup, 1) := by decide +kernel
theorem d_M_put_21 : decode k_M_put 21 = .ok (.getfield 192, 3) := by decide +kernel
theorem d_M_put_24 : decode k_M_put 24 = .ok (.iconst 1, 1) := by decide +kernel
theorem d_M_put_25 : decode k_M_put 25 = .ok (.iadd, 1) := by decide +kernel
theorem d_M_put_26 : decode k_M_put 26 = .ok (.putfield 192, 3) := by decide +kernel
theorem d_M_put_29 : decode k_M_put 29 = .ok (.return_, 1) := by decide +kernel
theorem d_M_putWord_0 : decode k_M_putWord 0 = .ok (.aload_n 0, 1) := by decide +kernel
theorem d_M_putWord_1 : decode k_M_putWord 1 = .ok (.getfield 13, 3) := by decide +kernel
theorem d_M_putWord_4 : decode k_M_putWord 4 = .ok (.iload_n 1, 1) := by decide +kernel
theorem d_M_putWord_5 : decode k_M_putWord 5 = .ok (.iaload, 1) := by decide +kernel
theorem d_M_putWord_6 : decode k_M_putWord 6 = .ok (.istore_n 2, 1) := by decide +kernel
theorem d_M_putWord_7 : decode k_M_putWord 7 = .ok (.iload_n 2, 1) := by decide +kernel
theorem d_M_putWord_8 : decode k_M_putWord 8 = .ok (.aload_n 0, 1) := by decide +kernel
theorem d_M_putWord_9 : decode k_M_putWord 9 = .ok (.getfield 13, 3) := by decide +kernel
theorem d_M_putWord_12 : decode k_M_putWord 12 = .ok (.iload_n 1, 1) := by decide +kernel
theorem d_M_putWord_13 : decode k_M_putWord 13 = .ok (.iconst 1, 1) := by decide +kernel
theorem d_M_putWord_14 : decode k_M_putWord 14 = .ok (.iadd, 1) := by decide +kernel
theorem d_M_putWord_15 : decode k_M_putWord 15 = .ok (.iaload, 1) := by decide +kernel
theorem d_M_putWord_16 : decode k_M_putWord 16 = .ok (.if_icmp .ge 19, 3) := by decide +kernel
theorem d_M_putWord_19 : decode k_M_putWord 19 = .ok (.aload_n 0, 1) := by decide +kernel
theorem d_M_putWord_20 : decode k_M_putWord 20 = .ok (.aload_n 0, 1) := by decide +kernel
theorem d_M_putWord_21 : decode k_M_putWord 21 = .ok (.getfield 7, 3) := by decide +kernel
theorem d_M_putWord_24 : decode k_M_putWord 24 = .ok (.iload_n 2, 1) := by decide +kernel
theorem d_M_putWord_25 : decode k_M_putWord 25 = .ok (.iaload, 1) := by decide +kernel
theorem d_M_putWord_26 : decode k_M_putWord 26 = .ok (.invokevirtual 195, 3) := by decide +kernel
theorem d_M_putWord_29 : decode k_M_putWord 29 = .ok (.iinc 2 1, 3) := by decide +kernel
theorem d_M_putWord_32 : decode k_M_putWord 32 = .ok (.goto (-25), 3) := by decide +kernel
theorem d_M_putWord_35 : decode k_M_putWord 35 = .ok (.return_, 1) := by decide +kernel
theorem d_M_ten_0 : decode k_M_ten 0 = .ok (.iload_n 0, 1) := by decide +kernel
theorem d_M_ten_1 : decode k_M_ten 1 = .ok (.ifCond .ne 7, 3) := by decide +kernel
theorem d_M_ten_4 : decode k_M_ten 4 = .ok (.iconst 1, 1) := by decide +kernel
theorem d_M_ten_5 : decode k_M_ten 5 = .ok (.goto 26, 3) := by decide +kernel
theorem d_M_ten_8 : decode k_M_ten 8 = .ok (.iload_n 0, 1) := by decide +kernel
theorem d_M_ten_9 : decode k_M_ten 9 = .ok (.iconst 1, 1) := by decide +kernel
theorem d_M_ten_10 : decode k_M_ten 10 = .ok (.if_icmp .ne 8, 3) := by decide +kernel
theorem d_M_ten_13 : decode k_M_ten 13 = .ok (.bipush 10, 2) := by decide +kernel
theorem d_M_ten_15 : decode k_M_ten 15 = .ok (.goto 16, 3) := by decide +kernel
theorem d_M_ten_18 : decode k_M_ten 18 = .ok (.iload_n 0, 1) := by decide +kernel
theorem d_M_ten_19 : decode k_M_ten 19 = .ok (.iconst 2, 1) := by decide +kernel
theorem d_M_ten_20 : decode k_M_ten 20 = .ok (.if_icmp .ne 8, 3) := by decide +kernel
theorem d_M_ten_23 : decode k_M_ten 23 = .ok (.bipush 100, 2) := by decide +kernel
theorem d_M_ten_25 : decode k_M_ten 25 = .ok (.goto 6, 3) := by decide +kernel
theorem d_M_ten_28 : decode k_M_ten 28 = .ok (.sipush 1000, 3) := by decide +kernel
theorem d_M_ten_31 : decode k_M_ten 31 = .ok (.ireturn, 1) := by decide +kernel
theorem d_M_putNumber_0 : decode k_M_putNumber 0 = .ok (.iload_n 1, 1) := by decide +kernel
theorem d_M_putNumber_1 : decode k_M_putNumber 1 = .ok (.ifCond .ge 8, 3) := by decide +kernel
theorem d_M_putNumber_4 : decode k_M_putNumber 4 = .ok (.iload_n 1, 1) := by decide +kernel
theorem d_M_putNumber_5 : decode k_M_putNumber 5 = .ok (.ineg, 1) := by decide +kernel
theorem d_M_putNumber_6 : decode k_M_putNumber 6 = .ok (.goto 4, 3) := by decide +kernel
theorem d_M_putNumber_9 : decode k_M_putNumber 9 = .ok (.iload_n 1, 1) := by decide +kernel
theorem d_M_putNumber_10 : decode k_M_putNumber 10 = .ok (.istore_n 2, 1) := by decide +kernel
theorem d_M_putNumber_11 : decode k_M_putNumber 11 = .ok (.iload_n 1, 1) := by decide +kernel
theorem d_M_putNumber_12 : decode k_M_putNumber 12 = .ok (.ifCond .ge 9, 3) := by decide +kernel
theorem d_M_putNumber_15 : decode k_M_putNumber 15 = .ok (.aload_n 0, 1) := by decide +kernel
theorem d_M_putNumber_16 : decode k_M_putNumber 16 = .ok (.bipush 45, 2) := by decide +kernel
theorem d_M_putNumber_18 : decode k_M_putNumber 18 = .ok (.invokevirtual 195, 3) := by decide +kernel
theorem d_M_putNumber_21 : decode k_M_putNumber 21 = .ok (.iload_n 2, 1) := by decide +kernel
theorem d_M_putNumber_22 : decode k_M_putNumber 22 = .ok (.aload_n 0, 1) := by decide +kernel
theorem d_M_putNumber_23 : decode k_M_putNumber 23 = .ok (.getfield 49, 3) := by decide +kernel
theorem d_M_putNumber_26 : decode k_M_putNumber 26 = .ok (.invokestatic 198, 3) := by decide +kernel
theorem d_M_putNumber_29 : decode k_M_putNumber 29 = .ok (.idiv, 1) := by decide +kernel
theorem d_M_putNumber_30 : decode k_M_putNumber 30 = .ok (.istore_n 3, 1) := by decide +kernel
theorem d_M_putNumber_31 : decode k_M_putNumber 31 = .ok (.iconst 1, 1) := by decide +kernel
theorem d_M_putNumber_32 : decode k_M_putNumber 32 = .ok (.istore 4, 2) := by decide +kernel
theorem d_M_putNumber_34 : decode k_M_putNumber 34 = .ok (.iload_n 3, 1) := by decide +kernel
theorem d_M_putNumber_35 : decode k_M_putNumber 35 = .ok (.iload 4, 2) := by decide +kernel
theorem d_M_putNumber_37 : decode k_M_putNumber 37 = .ok (.idiv, 1) := by decide +kernel
theorem d_M_putNumber_38 : decode k_M_putNumber 38 = .ok (.bipush 9, 2) := by decide +kernel
theorem d_M_putNumber_40 : decode k_M_putNumber 40 = .ok (.if_icmp .le 13, 3) := by decide +kernel
theorem d_M_putNumber_43 : decode k_M_putNumber 43 = .ok (.iload 4, 2) := by decide +kernel
theorem d_M_putNumber_45 : decode k_M_putNumber 45 = .ok (.bipush 10, 2) := by decide +kernel
theorem d_M_putNumber_47 : decode k_M_putNumber 47 = .ok (.imul, 1) := by decide +kernel
theorem d_M_putNumber_48 : decode k_M_putNumber 48 = .ok (.istore 4, 2) := by decide +kernel
theorem d_M_putNumber_50 : decode k_M_putNumber 50 = .ok (.goto (-16), 3) := by decide +kernel
theorem d_M_putNumber_53 : decode k_M_putNumber 53 = .ok (.iload 4, 2) := by decide +kernel
theorem d_M_putNumber_55 : decode k_M_putNumber 55 = .ok (.istore 5, 2) := by decide +kernel
theorem d_M_putNumber_57 : decode k_M_putNumber 57 = .ok (.iload 5, 2) := by decide +kernel
theorem d_M_putNumber_59 : decode k_M_putNumber 59 = .ok (.ifCond .le 27, 3) := by decide +kernel
theorem d_M_putNumber_62 : decode k_M_putNumber 62 = .ok (.aload_n 0, 1) := by decide +kernel
theorem d_M_putNumber_63 : decode k_M_putNumber 63 = .ok (.bipush 48, 2) := by decide +kernel
theorem d_M_putNumber_65 : decode k_M_putNumber 65 = .ok (.iload_n 3, 1) := by decide +kernel
theorem d_M_putNumber_66 : decode k_M_putNumber 66 = .ok (.iload 5, 2) := by decide +kernel
theorem d_M_putNumber_68 : decode k_M_putNumber 68 = .ok (.idiv, 1) := by decide +kernel
theorem d_M_putNumber_69 : decode k_M_putNumber 69 = .ok (.bipush 10, 2) := by decide +kernel
theorem d_M_putNumber_71 : decode k_M_putNumber 71 = .ok (.irem, 1) := by decide +kernel
theorem d_M_putNumber_72 : decode k_M_putNumber 72 = .ok (.iadd, 1) := by decide +kernel
theorem d_M_putNumber_73 : decode k_M_putNumber 73 = .ok (.invokevirtual 195, 3) := by decide +kernel
theorem d_M_putNumber_76 : decode k_M_putNumber 76 = .ok (.iload 5, 2) := by decide +kernel
theorem d_M_putNumber_78 : decode k_M_putNumber 78 = .ok (.bipush 10, 2) := by decide +kernel
theorem d_M_putNumber_80 : decode k_M_putNumber 80 = .ok (.idiv, 1) := by decide +kernel
theorem d_M_putNumber_81 : decode k_M_putNumber 81 = .ok (.istore 5, 2) := by decide +kernel
theorem d_M_putNumber_83 : decode k_M_putNumber 83 = .ok (.goto (-26), 3) := by decide +kernel
theorem d_M_putNumber_86 : decode k_M_putNumber 86 = .ok (.iload_n 2, 1) := by decide +kernel
theorem d_M_putNumber_87 : decode k_M_putNumber 87 = .ok (.aload_n 0, 1) := by decide +kernel
theorem d_M_putNumber_88 : decode k_M_putNumber 88 = .ok (.getfield 49, 3) := by decide +kernel
theorem d_M_putNumber_91 : decode k_M_putNumber 91 = .ok (.invokestatic 198, 3) := by decide +kernel
theorem d_M_putNumber_94 : decode k_M_putNumber 94 = .ok (.irem, 1) := by decide +kernel
theorem d_M_putNumber_95 : decode k_M_putNumber 95 = .ok (.istore 5, 2) := by decide +kernel
theorem d_M_putNumber_97 : decode k_M_putNumber 97 = .ok (.iload 5, 2) := by decide +kernel
theorem d_M_putNumber_99 : decode k_M_putNumber 99 = .ok (.ifCond .le 9, 3) := by decide +kernel
theorem d_M_putNumber_102 : decode k_M_putNumber 102 = .ok (.aload_n 0, 1) := by decide +kernel
theorem d_M_putNumber_103 : decode k_M_putNumber 103 = .ok (.bipush 46, 2) := by decide +kernel
theorem d_M_putNumber_105 : decode k_M_putNumber 105 = .ok (.invokevirtual 195, 3) := by decide +kernel
theorem d_M_putNumber_108 : decode k_M_putNumber 108 = .ok (.aload_n 0, 1) := by decide +kernel
theorem d_M_putNumber_109 : decode k_M_putNumber 109 = .ok (.getfield 49, 3) := by decide +kernel
theorem d_M_putNumber_112 : decode k_M_putNumber 112 = .ok (.invokestatic 198, 3) := by decide +kernel
theorem d_M_putNumber_115 : decode k_M_putNumber 115 = .ok (.bipush 10, 2) := by decide +kernel
theorem d_M_putNumber_117 : decode k_M_putNumber 117 = .ok (.idiv, 1) := by decide +kernel
theorem d_M_putNumber_118 : decode k_M_putNumber 118 = .ok (.istore 6, 2) := by decide +kernel
theorem d_M_putNumber_120 : decode k_M_putNumber 120 = .ok (.iload 5, 2) := by decide +kernel
theorem d_M_putNumber_122 : decode k_M_putNumber 122 = .ok (.ifCond .le 32, 3) := by decide +kernel
theorem d_M_putNumber_125 : decode k_M_putNumber 125 = .ok (.aload_n 0, 1) := by decide +kernel
theorem d_M_putNumber_126 : decode k_M_putNumber 126 = .ok (.bipush 48, 2) := by decide +kernel
theorem d_M_putNumber_128 : decode k_M_putNumber 128 = .ok (.iload 5, 2) := by decide +kernel
theorem d_M_putNumber_130 : decode k_M_putNumber 130 = .ok (.iload 6, 2) := by decide +kernel
theorem d_M_putNumber_132 : decode k_M_putNumber 132 = .ok (.idiv, 1) := by decide +kernel
theorem d_M_putNumber_133 : decode k_M_putNumber 133 = .ok (.iadd, 1) := by decide +kernel
theorem d_M_putNumber_134 : decode k_M_putNumber 134 = .ok (.invokevirtual 195, 3) := by decide +kernel
theorem d_M_putNumber_137 : decode k_M_putNumber 137 = .ok (.iload 5, 2) := by decide +kernel
theorem d_M_putNumber_139 : decode k_M_putNumber 139 = .ok (.iload 6, 2) := by decide +kernel
theorem d_M_putNumber_141 : decode k_M_putNumber 141 = .ok (.irem, 1) := by decide +kernel
theorem d_M_putNumber_142 : decode k_M_putNumber 142 = .ok (.istore 5, 2) := by decide +kernel
theorem d_M_putNumber_144 : decode k_M_putNumber 144 = .ok (.iload 6, 2) := by decide +kernel
theorem d_M_putNumber_146 : decode k_M_putNumber 146 = .ok (.bipush 10, 2) := by decide +kernel
theorem d_M_putNumber_148 : decode k_M_putNumber 148 = .ok (.idiv, 1) := by decide +kernel
theorem d_M_putNumber_149 : decode k_M_putNumber 149 = .ok (.istore 6, 2) := by decide +kernel
theorem d_M_putNumber_151 : decode k_M_putNumber 151 = .ok (.goto (-31), 3) := by decide +kernel
theorem d_M_putNumber_154 : decode k_M_putNumber 154 = .ok (.return_, 1) := by decide +kernel
theorem d_M_putBetween_0 : decode k_M_putBetween 0 = .ok (.aload_n 0, 1) := by decide +kernel
theorem d_M_putBetween_1 : decode k_M_putBetween 1 = .ok (.bipush 44, 2) := by decide +kernel
theorem d_M_putBetween_3 : decode k_M_putBetween 3 = .ok (.invokevirtual 195, 3) := by decide +kernel
theorem d_M_putBetween_6 : decode k_M_putBetween 6 = .ok (.aload_n 0, 1) := by decide +kernel
theorem d_M_putBetween_7 : decode k_M_putBetween 7 = .ok (.bipush 32, 2) := by decide +kernel
theorem d_M_putBetween_9 : decode k_M_putBetween 9 = .ok (.invokevirtual 195, 3) := by decide +kernel
theorem d_M_putBetween_12 : decode k_M_putBetween 12 = .ok (.return_, 1) := by decide +kernel
theorem d_M_putPoints_0 : decode k_M_putPoints 0 = .ok (.aload_n 0, 1) := by decide +kernel
theorem d_M_putPoints_1 : decode k_M_putPoints 1 = .ok (.bipush 40, 2) := by decide +kernel
theorem d_M_putPoints_3 : decode k_M_putPoints 3 = .ok (.invokevirtual 195, 3) := by decide +kernel
theorem d_M_putPoints_6 : decode k_M_putPoints 6 = .ok (.iconst 0, 1) := by decide +kernel
theorem d_M_putPoints_7 : decode k_M_putPoints 7 = .ok (.istore 4, 2) := by decide +kernel
theorem d_M_putPoints_9 : decode k_M_putPoints 9 = .ok (.iload 4, 2) := by decide +kernel
theorem d_M_putPoints_11 : decode k_M_putPoints 11 = .ok (.iload_n 3, 1) := by decide +kernel
theorem d_M_putPoints_12 : decode k_M_putPoints 12 = .ok (.if_icmp .ge 62, 3) := by decide +kernel
theorem d_M_putPoints_15 : decode k_M_putPoints 15 = .ok (.iconst 2, 1) := by decide +kernel
theorem d_M_putPoints_16 : decode k_M_putPoints 16 = .ok (.sipush 4096, 3) := by decide +kernel
theorem d_M_putPoints_19 : decode k_M_putPoints 19 = .ok (.iload_n 1, 1) := by decide +kernel
theorem d_M_putPoints_20 : decode k_M_putPoints 20 = .ok (.imul, 1) := by decide +kernel
theorem d_M_putPoints_21 : decode k_M_putPoints 21 = .ok (.iload_n 2, 1) := by decide +kernel
theorem d_M_putPoints_22 : decode k_M_putPoints 22 = .ok (.iadd, 1) := by decide +kernel
theorem d_M_putPoints_23 : decode k_M_putPoints 23 = .ok (.iload 4, 2) := by decide +kernel
theorem d_M_putPoints_25 : decode k_M_putPoints 25 = .ok (.iadd, 1) := by decide +kernel
theorem d_M_putPoints_26 : decode k_M_putPoints 26 = .ok (.imul, 1) := by decide +kernel
theorem d_M_putPoints_27 : decode k_M_putPoints 27 = .ok (.istore 5, 2) := by decide +kernel
theorem d_M_putPoints_29 : decode k_M_putPoints 29 = .ok (.iload 4, 2) := by decide +kernel
theorem d_M_putPoints_31 : decode k_M_putPoints 31 = .ok (.ifCond .le 7, 3) := by decide +kernel
theorem d_M_putPoints_34 : decode k_M_putPoints 34 = .ok (.aload_n 0, 1) := by decide +kernel
theorem d_M_putPoints_35 : decode k_M_putPoints 35 = .ok (.invokevirtual 201, 3) := by decide +kernel
theorem d_M_putPoints_38 : decode k_M_putPoints 38 = .ok (.aload_n 0, 1) := by decide +kernel
theorem d_M_putPoints_39 : decode k_M_putPoints 39 = .ok (.aload_n 0, 1) := by decide +kernel
theorem d_M_putPoints_40 : decode k_M_putPoints 40 = .ok (.getfield 27, 3) := by decide +kernel
theorem d_M_putPoints_43 : decode k_M_putPoints 43 = .ok (.iload 5, 2) := by decide +kernel
theorem d_M_putPoints_45 : decode k_M_putPoints 45 = .ok (.iaload, 1) := by decide +kernel
theorem d_M_putPoints_46 : decode k_M_putPoints 46 = .ok (.invokevirtual 204, 3) := by decide +kernel
theorem d_M_putPoints_49 : decode k_M_putPoints 49 = .ok (.aload_n 0, 1) := by decide +kernel
theorem d_M_putPoints_50 : decode k_M_putPoints 50 = .ok (.bipush 32, 2) := by decide +kernel
theorem d_M_putPoints_52 : decode k_M_putPoints 52 = .ok (.invokevirtual 195, 3) := by decide +kernel
theorem d_M_putPoints_55 : decode k_M_putPoints 55 = .ok (.aload_n 0, 1) := by decide +kernel
theorem d_M_putPoints_56 : decode k_M_putPoints 56 = .ok (.aload_n 0, 1) := by decide +kernel
theorem d_M_putPoints_57 : decode k_M_putPoints 57 = .ok (.getfield 27, 3) := by decide +kernel
theorem d_M_putPoints_60 : decode k_M_putPoints 60 = .ok (.iload 5, 2) := by decide +kernel
theorem d_M_putPoints_62 : decode k_M_putPoints 62 = .ok (.iconst 1, 1) := by decide +kernel
theorem d_M_putPoints_63 : decode k_M_putPoints 63 = .ok (.iadd, 1) := by decide +kernel
theorem d_M_putPoints_64 : decode k_M_putPoints 64 = .ok (.iaload, 1) := by decide +kernel
theorem d_M_putPoints_65 : decode k_M_putPoints 65 = .ok (.invokevirtual 204, 3) := by decide +kernel
theorem d_M_putPoints_68 : decode k_M_putPoints 68 = .ok (.iinc 4 1, 3) := by decide +kernel
theorem d_M_putPoints_71 : decode k_M_putPoints 71 = .ok (.goto (-62), 3) := by decide +kernel
theorem d_M_putPoints_74 : decode k_M_putPoints 74 = .ok (.aload_n 0, 1) := by decide +kernel
theorem d_M_putPoints_75 : decode k_M_putPoints 75 = .ok (.bipush 41, 2) := by decide +kernel
theorem d_M_putPoints_77 : decode k_M_putPoints 77 = .ok (.invokevirtual 195, 3) := by decide +kernel
theorem d_M_putPoints_80 : decode k_M_putPoints 80 = .ok (.return_, 1) := by decide +kernel
theorem d_M_putAll_0 : decode k_M_putAll 0 = .ok (.iconst 0, 1) := by decide +kernel
theorem d_M_putAll_1 : decode k_M_putAll 1 = .ok (.istore_n 2, 1) := by decide +kernel
theorem d_M_putAll_2 : decode k_M_putAll 2 = .ok (.sipush 4096, 3) := by decide +kernel
theorem d_M_putAll_5 : decode k_M_putAll 5 = .ok (.iload_n 1, 1) := by decide +kernel
theorem d_M_putAll_6 : decode k_M_putAll 6 = .ok (.imul, 1) := by decide +kernel
theorem d_M_putAll_7 : decode k_M_putAll 7 = .ok (.istore_n 3, 1) := by decide +kernel
theorem d_M_putAll_8 : decode k_M_putAll 8 = .ok (.iconst 0, 1) := by decide +kernel
theorem d_M_putAll_9 : decode k_M_putAll 9 = .ok (.istore 4, 2) := by decide +kernel
theorem d_M_putAll_11 : decode k_M_putAll 11 = .ok (.iconst 1, 1) := by decide +kernel
theorem d_M_putAll_12 : decode k_M_putAll 12 = .ok (.istore 5, 2) := by decide +kernel
theorem d_M_putAll_14 : decode k_M_putAll 14 = .ok (.iload 5, 2) := by decide +kernel
theorem d_M_putAll_16 : decode k_M_putAll 16 = .ok (.ifCond .eq 290, 3) := by decide +kernel
theorem d_M_putAll_19 : decode k_M_putAll 19 = .ok (.aload_n 0, 1) := by decide +kernel
theorem d_M_putAll_20 : decode k_M_putAll 20 = .ok (.getfield 20, 3) := by decide +kernel
theorem d_M_putAll_23 : decode k_M_putAll 23 = .ok (.iload_n 3, 1) := by decide +kernel
theorem d_M_putAll_24 : decode k_M_putAll 24 = .ok (.iaload, 1) := by decide +kernel
theorem d_M_putAll_25 : decode k_M_putAll 25 = .ok (.istore 6, 2) := by decide +kernel
theorem d_M_putAll_27 : decode k_M_putAll 27 = .ok (.aload_n 0, 1) := by decide +kernel
theorem d_M_putAll_28 : decode k_M_putAll 28 = .ok (.getfield 20, 3) := by decide +kernel
theorem d_M_putAll_31 : decode k_M_putAll 31 = .ok (.iload_n 3, 1) := by decide +kernel
theorem d_M_putAll_32 : decode k_M_putAll 32 = .ok (.iconst 1, 1) := by decide +kernel
theorem d_M_putAll_33 : decode k_M_putAll 33 = .ok (.iadd, 1) := by decide +kernel
theorem d_M_putAll_34 : decode k_M_putAll 34 = .ok (.iaload, 1) := by decide +kernel
theorem d_M_putAll_35 : decode k_M_putAll 35 = .ok (.istore 7, 2) := by decide +kernel
theorem d_M_putAll_37 : decode k_M_putAll 37 = .ok (.iinc 3 2, 3) := by decide +kernel
theorem d_M_putAll_40 : decode k_M_putAll 40 = .ok (.iload_n 2, 1) := by decide +kernel
theorem d_M_putAll_41 : decode k_M_putAll 41 = .ok (.ifCond .eq 16, 3) := by decide +kernel
theorem d_M_putAll_44 : decode k_M_putAll 44 = .ok (.aload_n 0, 1) := by decide +kernel
theorem d_M_putAll_45 : decode k_M_putAll 45 = .ok (.getfield 46, 3) := by decide +kernel
theorem d_M_putAll_48 : decode k_M_putAll 48 = .ok (.iload_n 2, 1) := by decide +kernel
theorem d_M_putAll_49 : decode k_M_putAll 49 = .ok (.iconst 1, 1) := by decide +kernel
theorem d_M_putAll_50 : decode k_M_putAll 50 = .ok (.isub, 1) := by decide +kernel
theorem d_M_putAll_51 : decode k_M_putAll 51 = .ok (.iaload, 1) := by decide +kernel
theorem d_M_putAll_52 : decode k_M_putAll 52 = .ok (.bipush 7, 2) := by decide +kernel
theorem d_M_putAll_54 : decode k_M_putAll 54 = .ok (.if_icmp .ne 15, 3) := by decide +kernel
theorem d_M_putAll_57 : decode k_M_putAll 57 = .ok (.aload_n 0, 1) := by decide +kernel
theorem d_M_putAll_58 : decode k_M_putAll 58 = .ok (.iload 6, 2) := by decide +kernel
theorem d_M_putAll_60 : decode k_M_putAll 60 = .ok (.invokevirtual 207, 3) := by decide +kernel
theorem d_M_putAll_63 : decode k_M_putAll 63 = .ok (.aload_n 0, 1) := by decide +kernel
theorem d_M_putAll_64 : decode k_M_putAll 64 = .ok (.bipush 32, 2) := by decide +kernel
theorem d_M_putAll_66 : decode k_M_putAll 66 = .ok (.invokevirtual 195, 3) := by decide +kernel
theorem d_M_putAll_69 : decode k_M_putAll 69 = .ok (.iload 6, 2) := by decide +kernel
theorem d_M_putAll_71 : decode k_M_putAll 71 = .ok (.iconst 4, 1) := by decide +kernel
theorem d_M_putAll_72 : decode k_M_putAll 72 = .ok (.if_icmp .lt 8, 3) := by decide +kernel
theorem d_M_putAll_75 : decode k_M_putAll 75 = .ok (.iload 7, 2) := by decide +kernel
theorem d_M_putAll_77 : decode k_M_putAll 77 = .ok (.ifCond .ne 7, 3) := by decide +kernel
theorem d_M_putAll_80 : decode k_M_putAll 80 = .ok (.iconst 1, 1) := by decide +kernel
theorem d_M_putAll_81 : decode k_M_putAll 81 = .ok (.goto 4, 3) := by decide +kernel
theorem d_M_putAll_84 : decode k_M_putAll 84 = .ok (.iconst 0, 1) := by decide +kernel
theorem d_M_putAll_85 : decode k_M_putAll 85 = .ok (.istore 8, 2) := by decide +kernel
theorem d_M_putAll_87 : decode k_M_putAll 87 = .ok (.iload 7, 2) := by decide +kernel
theorem d_M_putAll_89 : decode k_M_putAll 89 = .ok (.ifCond .ne 12, 3) := by decide +kernel
theorem d_M_putAll_92 : decode k_M_putAll 92 = .ok (.aload_n 0, 1) := by decide +kernel
theorem d_M_putAll_93 : decode k_M_putAll 93 = .ok (.bipush 8, 2) := by decide +kernel
theorem d_M_putAll_95 : decode k_M_putAll 95 = .ok (.invokevirtual 207, 3) := by decide +kernel
theorem d_M_putAll_98 : decode k_M_putAll 98 = .ok (.goto 34, 3) := by decide +kernel
theorem d_M_putAll_101 : decode k_M_putAll 101 = .ok (.iload 6, 2) := by decide +kernel
theorem d_M_putAll_103 : decode k_M_putAll 103 = .ok (.iconst 3, 1) := by decide +kernel
theorem d_M_putAll_104 : decode k_M_putAll 104 = .ok (.if_icmp .ge 22, 3) := by decide +kernel
theorem d_M_putAll_107 : decode k_M_putAll 107 = .ok (.aload_n 0, 1) := by decide +kernel
theorem d_M_putAll_108 : decode k_M_putAll 108 = .ok (.iload_n 1, 1) := by decide +kernel
theorem d_M_putAll_109 : decode k_M_putAll 109 = .ok (.iload 4, 2) := by decide +kernel
theorem d_M_putAll_111 : decode k_M_putAll 111 = .ok (.iload 7, 2) := by decide +kernel
theorem d_M_putAll_113 : decode k_M_putAll 113 = .ok (.invokevirtual 210, 3) := by decide +kernel
theorem d_M_putAll_116 : decode k_M_putAll 116 = .ok (.iload 4, 2) := by decide +kernel
theorem d_M_putAll_118 : decode k_M_putAll 118 = .ok (.iload 7, 2) := by decide +kernel
theorem d_M_putAll_120 : decode k_M_putAll 120 = .ok (.iadd, 1) := by decide +kernel
theorem d_M_putAll_121 : decode k_M_putAll 121 = .ok (.istore 4, 2) := by decide +kernel
theorem d_M_putAll_123 : decode k_M_putAll 123 = .ok (.goto 9, 3) := by decide +kernel
theorem d_M_putAll_126 : decode k_M_putAll 126 = .ok (.aload_n 0, 1) := by decide +kernel
theorem d_M_putAll_127 : decode k_M_putAll 127 = .ok (.bipush 40, 2) := by decide +kernel
theorem d_M_putAll_129 : decode k_M_putAll 129 = .ok (.invokevirtual 195, 3) := by decide +kernel
theorem d_M_putAll_132 : decode k_M_putAll 132 = .ok (.iload 6, 2) := by decide +kernel
theorem d_M_putAll_134 : decode k_M_putAll 134 = .ok (.iconst 3, 1) := by decide +kernel
theorem d_M_putAll_135 : decode k_M_putAll 135 = .ok (.if_icmp .ne 69, 3) := by decide +kernel
theorem d_M_putAll_138 : decode k_M_putAll 138 = .ok (.iload 7, 2) := by decide +kernel
theorem d_M_putAll_140 : decode k_M_putAll 140 = .ok (.ifCond .le 64, 3) := by decide +kernel
theorem d_M_putAll_143 : decode k_M_putAll 143 = .ok (.iconst 0, 1) := by decide +kernel
theorem d_M_putAll_144 : decode k_M_putAll 144 = .ok (.istore 9, 2) := by decide +kernel
theorem d_M_putAll_146 : decode k_M_putAll 146 = .ok (.iload 9, 2) := by decide +kernel
theorem d_M_putAll_148 : decode k_M_putAll 148 = .ok (.iload 7, 2) := by decide +kernel
theorem d_M_putAll_150 : decode k_M_putAll 150 = .ok (.if_icmp .ge 45, 3) := by decide +kernel
theorem d_M_putAll_153 : decode k_M_putAll 153 = .ok (.iload 9, 2) := by decide +kernel
theorem d_M_putAll_155 : decode k_M_putAll 155 = .ok (.ifCond .le 7, 3) := by decide +kernel
theorem d_M_putAll_158 : decode k_M_putAll 158 = .ok (.aload_n 0, 1) := by decide +kernel
theorem d_M_putAll_159 : decode k_M_putAll 159 = .ok (.invokevirtual 201, 3) := by decide +kernel
theorem d_M_putAll_162 : decode k_M_putAll 162 = .ok (.aload_n 0, 1) := by decide +kernel
theorem d_M_putAll_163 : decode k_M_putAll 163 = .ok (.iload_n 1, 1) := by decide +kernel
theorem d_M_putAll_164 : decode k_M_putAll 164 = .ok (.iload 4, 2) := by decide +kernel
theorem d_M_putAll_166 : decode k_M_putAll 166 = .ok (.aload_n 0, 1) := by decide +kernel
theorem d_M_putAll_167 : decode k_M_putAll 167 = .ok (.getfield 20, 3) := by decide +kernel
theorem d_M_putAll_170 : decode k_M_putAll 170 = .ok (.iload_n 3, 1) := by decide +kernel
theorem d_M_putAll_171 : decode k_M_putAll 171 = .ok (.iaload, 1) := by decide +kernel
theorem d_M_putAll_172 : decode k_M_putAll 172 = .ok (.invokevirtual 210, 3) := by decide +kernel
theorem d_M_putAll_175 : decode k_M_putAll 175 = .ok (.iload 4, 2) := by decide +kernel
theorem d_M_putAll_177 : decode k_M_putAll 177 = .ok (.aload_n 0, 1) := by decide +kernel
theorem d_M_putAll_178 : decode k_M_putAll 178 = .ok (.getfield 20, 3) := by decide +kernel
theorem d_M_putAll_181 : decode k_M_putAll 181 = .ok (.iload_n 3, 1) := by decide +kernel
theorem d_M_putAll_182 : decode k_M_putAll 182 = .ok (.iaload, 1) := by decide +kernel
theorem d_M_putAll_183 : decode k_M_putAll 183 = .ok (.iadd, 1) := by decide +kernel
theorem d_M_putAll_184 : decode k_M_putAll 184 = .ok (.istore 4, 2) := by decide +kernel
theorem d_M_putAll_186 : decode k_M_putAll 186 = .ok (.iinc 3 1, 3) := by decide +kernel
theorem d_M_putAll_189 : decode k_M_putAll 189 = .ok (.iinc 9 1, 3) := by decide +kernel
theorem d_M_putAll_192 : decode k_M_putAll 192 = .ok (.goto (-46), 3) := by decide +kernel
theorem d_M_putAll_195 : decode k_M_putAll 195 = .ok (.aload_n 0, 1) := by decide +kernel
theorem d_M_putAll_196 : decode k_M_putAll 196 = .ok (.bipush 41, 2) := by decide +kernel
theorem d_M_putAll_198 : decode k_M_putAll 198 = .ok (.invokevirtual 195, 3) := by decide +kernel
theorem d_M_putAll_201 : decode k_M_putAll 201 = .ok (.goto 27, 3) := by decide +kernel
theorem d_M_putAll_204 : decode k_M_putAll 204 = .ok (.iload 8, 2) := by decide +kernel
theorem d_M_putAll_206 : decode k_M_putAll 206 = .ok (.ifCond .ne 22, 3) := by decide +kernel
theorem d_M_putAll_209 : decode k_M_putAll 209 = .ok (.aload_n 0, 1) := by decide +kernel
theorem d_M_putAll_210 : decode k_M_putAll 210 = .ok (.getfield 46, 3) := by decide +kernel
theorem d_M_putAll_213 : decode k_M_putAll 213 = .ok (.iload_n 2, 1) := by decide +kernel
theorem d_M_putAll_214 : decode k_M_putAll 214 = .ok (.iload 6, 2) := by decide +kernel
theorem d_M_putAll_216 : decode k_M_putAll 216 = .ok (.iastore, 1) := by decide +kernel
theorem d_M_putAll_217 : decode k_M_putAll 217 = .ok (.aload_n 0, 1) := by decide +kernel
theorem d_M_putAll_218 : decode k_M_putAll 218 = .ok (.getfield 43, 3) := by decide +kernel
theorem d_M_putAll_221 : decode k_M_putAll 221 = .ok (.iload_n 2, 1) := by decide +kernel
theorem d_M_putAll_222 : decode k_M_putAll 222 = .ok (.iload 7, 2) := by decide +kernel
theorem d_M_putAll_224 : decode k_M_putAll 224 = .ok (.iastore, 1) := by decide +kernel
theorem d_M_putAll_225 : decode k_M_putAll 225 = .ok (.iinc 2 1, 3) := by decide +kernel
theorem d_M_putAll_228 : decode k_M_putAll 228 = .ok (.iload 8, 2) := by decide +kernel
theorem d_M_putAll_230 : decode k_M_putAll 230 = .ok (.ifCond .eq 61, 3) := by decide +kernel
theorem d_M_putAll_233 : decode k_M_putAll 233 = .ok (.iload_n 2, 1) := by decide +kernel
theorem d_M_putAll_234 : decode k_M_putAll 234 = .ok (.ifCond .le 57, 3) := by decide +kernel
theorem d_M_putAll_237 : decode k_M_putAll 237 = .ok (.aload_n 0, 1) := by decide +kernel
theorem d_M_putAll_238 : decode k_M_putAll 238 = .ok (.getfield 43, 3) := by decide +kernel
theorem d_M_putAll_241 : decode k_M_putAll 241 = .ok (.iload_n 2, 1) := by decide +kernel
theorem d_M_putAll_242 : decode k_M_putAll 242 = .ok (.iconst 1, 1) := by decide +kernel
theorem d_M_putAll_243 : decode k_M_putAll 243 = .ok (.isub, 1) := by decide +kernel
theorem d_M_putAll_244 : decode k_M_putAll 244 = .ok (.dup2, 1) := by decide +kernel
theorem d_M_putAll_245 : decode k_M_putAll 245 = .ok (.iaload, 1) := by decide +kernel
theorem d_M_putAll_246 : decode k_M_putAll 246 = .ok (.iconst 1, 1) := by decide +kernel
theorem d_M_putAll_247 : decode k_M_putAll 247 = .ok (.isub, 1) := by decide +kernel
theorem d_M_putAll_248 : decode k_M_putAll 248 = .ok (.iastore, 1) := by decide +kernel
theorem d_M_putAll_249 : decode k_M_putAll 249 = .ok (.aload_n 0, 1) := by decide +kernel
theorem d_M_putAll_250 : decode k_M_putAll 250 = .ok (.getfield 43, 3) := by decide +kernel
theorem d_M_putAll_253 : decode k_M_putAll 253 = .ok (.iload_n 2, 1) := by decide +kernel
theorem d_M_putAll_254 : decode k_M_putAll 254 = .ok (.iconst 1, 1) := by decide +kernel
theorem d_M_putAll_255 : decode k_M_putAll 255 = .ok (.isub, 1) := by decide +kernel
theorem d_M_putAll_256 : decode k_M_putAll 256 = .ok (.iaload, 1) := by decide +kernel
theorem d_M_putAll_257 : decode k_M_putAll 257 = .ok (.ifCond .ne 7, 3) := by decide +kernel
theorem d_M_putAll_260 : decode k_M_putAll 260 = .ok (.iconst 1, 1) := by decide +kernel
theorem d_M_putAll_261 : decode k_M_putAll 261 = .ok (.goto 4, 3) := by decide +kernel
theorem d_M_putAll_264 : decode k_M_putAll 264 = .ok (.iconst 0, 1) := by decide +kernel
theorem d_M_putAll_265 : decode k_M_putAll 265 = .ok (.istore 8, 2) := by decide +kernel
theorem d_M_putAll_267 : decode k_M_putAll 267 = .ok (.iload 8, 2) := by decide +kernel
theorem d_M_putAll_269 : decode k_M_putAll 269 = .ok (.ifCond .eq 15, 3) := by decide +kernel
theorem d_M_putAll_272 : decode k_M_putAll 272 = .ok (.aload_n 0, 1) := by decide +kernel
theorem d_M_putAll_273 : decode k_M_putAll 273 = .ok (.bipush 41, 2) := by decide +kernel
theorem d_M_putAll_275 : decode k_M_putAll 275 = .ok (.invokevirtual 195, 3) := by decide +kernel
theorem d_M_putAll_278 : decode k_M_putAll 278 = .ok (.iinc 2 (-1), 3) := by decide +kernel
theorem d_M_putAll_281 : decode k_M_putAll 281 = .ok (.goto (-53), 3) := by decide +kernel
theorem d_M_putAll_284 : decode k_M_putAll 284 = .ok (.aload_n 0, 1) := by decide +kernel
theorem d_M_putAll_285 : decode k_M_putAll 285 = .ok (.invokevirtual 201, 3) := by decide +kernel
theorem d_M_putAll_288 : decode k_M_putAll 288 = .ok (.goto (-60), 3) := by decide +kernel
theorem d_M_putAll_291 : decode k_M_putAll 291 = .ok (.iload 8, 2) := by decide +kernel
theorem d_M_putAll_293 : decode k_M_putAll 293 = .ok (.ifCond .ne 7, 3) := by decide +kernel
theorem d_M_putAll_296 : decode k_M_putAll 296 = .ok (.iconst 1, 1) := by decide +kernel
theorem d_M_putAll_297 : decode k_M_putAll 297 = .ok (.goto 4, 3) := by decide +kernel
theorem d_M_putAll_300 : decode k_M_putAll 300 = .ok (.iconst 0, 1) := by decide +kernel
theorem d_M_putAll_301 : decode k_M_putAll 301 = .ok (.istore 5, 2) := by decide +kernel
theorem d_M_putAll_303 : decode k_M_putAll 303 = .ok (.goto (-289), 3) := by decide +kernel
theorem d_M_putAll_306 : decode k_M_putAll 306 = .ok (.return_, 1) := by decide +kernel
theorem d_M_write_0 : decode k_M_write 0 = .ok (.aload_n 0, 1) := by decide +kernel
theorem d_M_write_1 : decode k_M_write 1 = .ok (.iconst 0, 1) := by decide +kernel
theorem d_M_write_2 : decode k_M_write 2 = .ok (.putfield 59, 3) := by decide +kernel
theorem d_M_write_5 : decode k_M_write 5 = .ok (.iload_n 1, 1) := by decide +kernel
theorem d_M_write_6 : decode k_M_write 6 = .ok (.invokestatic 186, 3) := by decide +kernel
theorem d_M_write_9 : decode k_M_write 9 = .ok (.ifCond .ne 9, 3) := by decide +kernel
theorem d_M_write_12 : decode k_M_write 12 = .ok (.aload_n 0, 1) := by decide +kernel
theorem d_M_write_13 : decode k_M_write 13 = .ok (.iconst 1, 1) := by decide +kernel
theorem d_M_write_14 : decode k_M_write 14 = .ok (.invokevirtual 69, 3) := by decide +kernel
theorem d_M_write_17 : decode k_M_write 17 = .ok (.ireturn, 1) := by decide +kernel
theorem d_M_write_18 : decode k_M_write 18 = .ok (.aload_n 0, 1) := by decide +kernel
theorem d_M_write_19 : decode k_M_write 19 = .ok (.getfield 23, 3) := by decide +kernel
theorem d_M_write_22 : decode k_M_write 22 = .ok (.iload_n 1, 1) := by decide +kernel
theorem d_M_write_23 : decode k_M_write 23 = .ok (.iaload, 1) := by decide +kernel
theorem d_M_write_24 : decode k_M_write 24 = .ok (.ifCond .ne 9, 3) := by decide +kernel
theorem d_M_write_27 : decode k_M_write 27 = .ok (.aload_n 0, 1) := by decide +kernel
theorem d_M_write_28 : decode k_M_write 28 = .ok (.iconst 2, 1) := by decide +kernel
theorem d_M_write_29 : decode k_M_write 29 = .ok (.invokevirtual 69, 3) := by decide +kernel
theorem d_M_write_32 : decode k_M_write 32 = .ok (.ireturn, 1) := by decide +kernel
theorem d_M_write_33 : decode k_M_write 33 = .ok (.aload_n 0, 1) := by decide +kernel
theorem d_M_write_34 : decode k_M_write 34 = .ok (.iconst 0, 1) := by decide +kernel
theorem d_M_write_35 : decode k_M_write 35 = .ok (.putfield 192, 3) := by decide +kernel
theorem d_M_write_38 : decode k_M_write 38 = .ok (.aload_n 0, 1) := by decide +kernel
theorem d_M_write_39 : decode k_M_write 39 = .ok (.iload_n 1, 1) := by decide +kernel
theorem d_M_write_40 : decode k_M_write 40 = .ok (.invokevirtual 214, 3) := by decide +kernel
theorem d_M_write_43 : decode k_M_write 43 = .ok (.aload_n 0, 1) := by decide +kernel
theorem d_M_write_44 : decode k_M_write 44 = .ok (.getfield 192, 3) := by decide +kernel
theorem d_M_write_47 : decode k_M_write 47 = .ok (.ldc 33, 2) := by decide +kernel
theorem d_M_write_49 : decode k_M_write 49 = .ok (.if_icmp .le 9, 3) := by decide +kernel
theorem d_M_write_52 : decode k_M_write 52 = .ok (.aload_n 0, 1) := by decide +kernel
theorem d_M_write_53 : decode k_M_write 53 = .ok (.iconst 3, 1) := by decide +kernel
theorem d_M_write_54 : decode k_M_write 54 = .ok (.invokevirtual 69, 3) := by decide +kernel
theorem d_M_write_57 : decode k_M_write 57 = .ok (.ireturn, 1) := by decide +kernel
theorem d_M_write_58 : decode k_M_write 58 = .ok (.iconst 0, 1) := by decide +kernel
theorem d_M_write_59 : decode k_M_write 59 = .ok (.istore_n 2, 1) := by decide +kernel
theorem d_M_write_60 : decode k_M_write 60 = .ok (.iload_n 2, 1) := by decide +kernel
theorem d_M_write_61 : decode k_M_write 61 = .ok (.aload_n 0, 1) := by decide +kernel
theorem d_M_write_62 : decode k_M_write 62 = .ok (.getfield 192, 3) := by decide +kernel
theorem d_M_write_65 : decode k_M_write 65 = .ok (.if_icmp .ge 21, 3) := by decide +kernel
theorem d_M_write_68 : decode k_M_write 68 = .ok (.aload_n 0, 1) := by decide +kernel
theorem d_M_write_69 : decode k_M_write 69 = .ok (.getfield 34, 3) := by decide +kernel
theorem d_M_write_72 : decode k_M_write 72 = .ok (.iload_n 2, 1) := by decide +kernel
theorem d_M_write_73 : decode k_M_write 73 = .ok (.aload_n 0, 1) := by decide +kernel
theorem d_M_write_74 : decode k_M_write 74 = .ok (.getfield 37, 3) := by decide +kernel
theorem d_M_write_77 : decode k_M_write 77 = .ok (.iload_n 2, 1) := by decide +kernel
theorem d_M_write_78 : decode k_M_write 78 = .ok (.iaload, 1) := by decide +kernel
theorem d_M_write_79 : decode k_M_write 79 = .ok (.iastore, 1) := by decide +kernel
theorem d_M_write_80 : decode k_M_write 80 = .ok (.iinc 2 1, 3) := by decide +kernel
theorem d_M_write_83 : decode k_M_write 83 = .ok (.goto (-23), 3) := by decide +kernel
theorem d_M_write_86 : decode k_M_write 86 = .ok (.aload_n 0, 1) := by decide +kernel
theorem d_M_write_87 : decode k_M_write 87 = .ok (.aload_n 0, 1) := by decide +kernel
theorem d_M_write_88 : decode k_M_write 88 = .ok (.getfield 192, 3) := by decide +kernel
theorem d_M_write_91 : decode k_M_write 91 = .ok (.putfield 217, 3) := by decide +kernel
theorem d_M_write_94 : decode k_M_write 94 = .ok (.aload_n 0, 1) := by decide +kernel
theorem d_M_write_95 : decode k_M_write 95 = .ok (.getfield 217, 3) := by decide +kernel
theorem d_M_write_98 : decode k_M_write 98 = .ok (.ireturn, 1) := by decide +kernel
theorem d_M_again_0 : decode k_M_again 0 = .ok (.aload_n 0, 1) := by decide +kernel
theorem d_M_again_1 : decode k_M_again 1 = .ok (.iconst 0, 1) := by decide +kernel
end
section
theorem d_M_again_2 : decode k_M_again 2 = .ok (.putfield 59, 3) := by decide +kernel
theorem d_M_again_5 : decode k_M_again 5 = .ok (.aload_n 0, 1) := by decide +kernel
theorem d_M_again_6 : decode k_M_again 6 = .ok (.aload_n 0, 1) := by decide +kernel
theorem d_M_again_7 : decode k_M_again 7 = .ok (.getfield 217, 3) := by decide +kernel
theorem d_M_again_10 : decode k_M_again 10 = .ok (.ldc 16, 2) := by decide +kernel
theorem d_M_again_12 : decode k_M_again 12 = .ok (.if_icmp .ge 10, 3) := by decide +kernel
theorem d_M_again_15 : decode k_M_again 15 = .ok (.aload_n 0, 1) := by decide +kernel
theorem d_M_again_16 : decode k_M_again 16 = .ok (.getfield 217, 3) := by decide +kernel
theorem d_M_again_19 : decode k_M_again 19 = .ok (.goto 5, 3) := by decide +kernel
theorem d_M_again_22 : decode k_M_again 22 = .ok (.ldc 16, 2) := by decide +kernel
theorem d_M_again_24 : decode k_M_again 24 = .ok (.putfield 66, 3) := by decide +kernel
theorem d_M_again_27 : decode k_M_again 27 = .ok (.iconst 0, 1) := by decide +kernel
theorem d_M_again_28 : decode k_M_again 28 = .ok (.istore_n 1, 1) := by decide +kernel
theorem d_M_again_29 : decode k_M_again 29 = .ok (.iload_n 1, 1) := by decide +kernel
theorem d_M_again_30 : decode k_M_again 30 = .ok (.aload_n 0, 1) := by decide +kernel
theorem d_M_again_31 : decode k_M_again 31 = .ok (.getfield 66, 3) := by decide +kernel
theorem d_M_again_34 : decode k_M_again 34 = .ok (.if_icmp .ge 21, 3) := by decide +kernel
theorem d_M_again_37 : decode k_M_again 37 = .ok (.aload_n 0, 1) := by decide +kernel
theorem d_M_again_38 : decode k_M_again 38 = .ok (.getfield 17, 3) := by decide +kernel
theorem d_M_again_41 : decode k_M_again 41 = .ok (.iload_n 1, 1) := by decide +kernel
theorem d_M_again_42 : decode k_M_again 42 = .ok (.aload_n 0, 1) := by decide +kernel
theorem d_M_again_43 : decode k_M_again 43 = .ok (.getfield 34, 3) := by decide +kernel
theorem d_M_again_46 : decode k_M_again 46 = .ok (.iload_n 1, 1) := by decide +kernel
theorem d_M_again_47 : decode k_M_again 47 = .ok (.iaload, 1) := by decide +kernel
theorem d_M_again_48 : decode k_M_again 48 = .ok (.iastore, 1) := by decide +kernel
theorem d_M_again_49 : decode k_M_again 49 = .ok (.iinc 1 1, 3) := by decide +kernel
theorem d_M_again_52 : decode k_M_again 52 = .ok (.goto (-23), 3) := by decide +kernel
theorem d_M_again_55 : decode k_M_again 55 = .ok (.aload_n 0, 1) := by decide +kernel
theorem d_M_again_56 : decode k_M_again 56 = .ok (.getfield 66, 3) := by decide +kernel
theorem d_M_again_59 : decode k_M_again 59 = .ok (.ireturn, 1) := by decide +kernel
theorem d_M_same_0 : decode k_M_same 0 = .ok (.aload_n 0, 1) := by decide +kernel
theorem d_M_same_1 : decode k_M_same 1 = .ok (.iconst 0, 1) := by decide +kernel
theorem d_M_same_2 : decode k_M_same 2 = .ok (.putfield 59, 3) := by decide +kernel
theorem d_M_same_5 : decode k_M_same 5 = .ok (.iload_n 1, 1) := by decide +kernel
theorem d_M_same_6 : decode k_M_same 6 = .ok (.invokestatic 186, 3) := by decide +kernel
theorem d_M_same_9 : decode k_M_same 9 = .ok (.ifCond .eq 10, 3) := by decide +kernel
theorem d_M_same_12 : decode k_M_same 12 = .ok (.iload_n 2, 1) := by decide +kernel
theorem d_M_same_13 : decode k_M_same 13 = .ok (.invokestatic 186, 3) := by decide +kernel
theorem d_M_same_16 : decode k_M_same 16 = .ok (.ifCond .ne 17, 3) := by decide +kernel
theorem d_M_same_19 : decode k_M_same 19 = .ok (.aload_n 0, 1) := by decide +kernel
theorem d_M_same_20 : decode k_M_same 20 = .ok (.iconst 1, 1) := by decide +kernel
theorem d_M_same_21 : decode k_M_same 21 = .ok (.invokevirtual 69, 3) := by decide +kernel
theorem d_M_same_24 : decode k_M_same 24 = .ok (.ifCond .le 7, 3) := by decide +kernel
theorem d_M_same_27 : decode k_M_same 27 = .ok (.iconst 1, 1) := by decide +kernel
theorem d_M_same_28 : decode k_M_same 28 = .ok (.goto 4, 3) := by decide +kernel
theorem d_M_same_31 : decode k_M_same 31 = .ok (.iconst 0, 1) := by decide +kernel
theorem d_M_same_32 : decode k_M_same 32 = .ok (.ireturn, 1) := by decide +kernel
theorem d_M_same_33 : decode k_M_same 33 = .ok (.aload_n 0, 1) := by decide +kernel
theorem d_M_same_34 : decode k_M_same 34 = .ok (.getfield 23, 3) := by decide +kernel
theorem d_M_same_37 : decode k_M_same 37 = .ok (.iload_n 1, 1) := by decide +kernel
theorem d_M_same_38 : decode k_M_same 38 = .ok (.iaload, 1) := by decide +kernel
theorem d_M_same_39 : decode k_M_same 39 = .ok (.aload_n 0, 1) := by decide +kernel
theorem d_M_same_40 : decode k_M_same 40 = .ok (.getfield 23, 3) := by decide +kernel
theorem d_M_same_43 : decode k_M_same 43 = .ok (.iload_n 2, 1) := by decide +kernel
theorem d_M_same_44 : decode k_M_same 44 = .ok (.iaload, 1) := by decide +kernel
theorem d_M_same_45 : decode k_M_same 45 = .ok (.if_icmp .ne 22, 3) := by decide +kernel
theorem d_M_same_48 : decode k_M_same 48 = .ok (.aload_n 0, 1) := by decide +kernel
theorem d_M_same_49 : decode k_M_same 49 = .ok (.getfield 30, 3) := by decide +kernel
theorem d_M_same_52 : decode k_M_same 52 = .ok (.iload_n 1, 1) := by decide +kernel
theorem d_M_same_53 : decode k_M_same 53 = .ok (.iaload, 1) := by decide +kernel
theorem d_M_same_54 : decode k_M_same 54 = .ok (.aload_n 0, 1) := by decide +kernel
theorem d_M_same_55 : decode k_M_same 55 = .ok (.getfield 30, 3) := by decide +kernel
theorem d_M_same_58 : decode k_M_same 58 = .ok (.iload_n 2, 1) := by decide +kernel
theorem d_M_same_59 : decode k_M_same 59 = .ok (.iaload, 1) := by decide +kernel
theorem d_M_same_60 : decode k_M_same 60 = .ok (.if_icmp .ne 7, 3) := by decide +kernel
theorem d_M_same_63 : decode k_M_same 63 = .ok (.iconst 1, 1) := by decide +kernel
theorem d_M_same_64 : decode k_M_same 64 = .ok (.goto 4, 3) := by decide +kernel
theorem d_M_same_67 : decode k_M_same 67 = .ok (.iconst 0, 1) := by decide +kernel
theorem d_M_same_68 : decode k_M_same 68 = .ok (.istore_n 3, 1) := by decide +kernel
theorem d_M_same_69 : decode k_M_same 69 = .ok (.iconst 0, 1) := by decide +kernel
theorem d_M_same_70 : decode k_M_same 70 = .ok (.istore 4, 2) := by decide +kernel
theorem d_M_same_72 : decode k_M_same 72 = .ok (.iload 4, 2) := by decide +kernel
theorem d_M_same_74 : decode k_M_same 74 = .ok (.aload_n 0, 1) := by decide +kernel
theorem d_M_same_75 : decode k_M_same 75 = .ok (.getfield 23, 3) := by decide +kernel
theorem d_M_same_78 : decode k_M_same 78 = .ok (.iload_n 1, 1) := by decide +kernel
theorem d_M_same_79 : decode k_M_same 79 = .ok (.iaload, 1) := by decide +kernel
theorem d_M_same_80 : decode k_M_same 80 = .ok (.if_icmp .ge 48, 3) := by decide +kernel
theorem d_M_same_83 : decode k_M_same 83 = .ok (.iload_n 3, 1) := by decide +kernel
theorem d_M_same_84 : decode k_M_same 84 = .ok (.ifCond .eq 44, 3) := by decide +kernel
theorem d_M_same_87 : decode k_M_same 87 = .ok (.aload_n 0, 1) := by decide +kernel
theorem d_M_same_88 : decode k_M_same 88 = .ok (.getfield 20, 3) := by decide +kernel
theorem d_M_same_91 : decode k_M_same 91 = .ok (.sipush 4096, 3) := by decide +kernel
theorem d_M_same_94 : decode k_M_same 94 = .ok (.iload_n 1, 1) := by decide +kernel
theorem d_M_same_95 : decode k_M_same 95 = .ok (.imul, 1) := by decide +kernel
theorem d_M_same_96 : decode k_M_same 96 = .ok (.iload 4, 2) := by decide +kernel
theorem d_M_same_98 : decode k_M_same 98 = .ok (.iadd, 1) := by decide +kernel
theorem d_M_same_99 : decode k_M_same 99 = .ok (.iaload, 1) := by decide +kernel
theorem d_M_same_100 : decode k_M_same 100 = .ok (.aload_n 0, 1) := by decide +kernel
theorem d_M_same_101 : decode k_M_same 101 = .ok (.getfield 20, 3) := by decide +kernel
theorem d_M_same_104 : decode k_M_same 104 = .ok (.sipush 4096, 3) := by decide +kernel
theorem d_M_same_107 : decode k_M_same 107 = .ok (.iload_n 2, 1) := by decide +kernel
theorem d_M_same_108 : decode k_M_same 108 = .ok (.imul, 1) := by decide +kernel
theorem d_M_same_109 : decode k_M_same 109 = .ok (.iload 4, 2) := by decide +kernel
theorem d_M_same_111 : decode k_M_same 111 = .ok (.iadd, 1) := by decide +kernel
theorem d_M_same_112 : decode k_M_same 112 = .ok (.iaload, 1) := by decide +kernel
theorem d_M_same_113 : decode k_M_same 113 = .ok (.if_icmp .ne 7, 3) := by decide +kernel
theorem d_M_same_116 : decode k_M_same 116 = .ok (.iconst 1, 1) := by decide +kernel
theorem d_M_same_117 : decode k_M_same 117 = .ok (.goto 4, 3) := by decide +kernel
theorem d_M_same_120 : decode k_M_same 120 = .ok (.iconst 0, 1) := by decide +kernel
theorem d_M_same_121 : decode k_M_same 121 = .ok (.istore_n 3, 1) := by decide +kernel
theorem d_M_same_122 : decode k_M_same 122 = .ok (.iinc 4 1, 3) := by decide +kernel
theorem d_M_same_125 : decode k_M_same 125 = .ok (.goto (-53), 3) := by decide +kernel
theorem d_M_same_128 : decode k_M_same 128 = .ok (.iconst 0, 1) := by decide +kernel
theorem d_M_same_129 : decode k_M_same 129 = .ok (.istore 4, 2) := by decide +kernel
theorem d_M_same_131 : decode k_M_same 131 = .ok (.iload 4, 2) := by decide +kernel
theorem d_M_same_133 : decode k_M_same 133 = .ok (.iconst 2, 1) := by decide +kernel
theorem d_M_same_134 : decode k_M_same 134 = .ok (.aload_n 0, 1) := by decide +kernel
theorem d_M_same_135 : decode k_M_same 135 = .ok (.getfield 30, 3) := by decide +kernel
theorem d_M_same_138 : decode k_M_same 138 = .ok (.iload_n 1, 1) := by decide +kernel
theorem d_M_same_139 : decode k_M_same 139 = .ok (.iaload, 1) := by decide +kernel
theorem d_M_same_140 : decode k_M_same 140 = .ok (.imul, 1) := by decide +kernel
theorem d_M_same_141 : decode k_M_same 141 = .ok (.if_icmp .ge 48, 3) := by decide +kernel
theorem d_M_same_144 : decode k_M_same 144 = .ok (.iload_n 3, 1) := by decide +kernel
theorem d_M_same_145 : decode k_M_same 145 = .ok (.ifCond .eq 44, 3) := by decide +kernel
theorem d_M_same_148 : decode k_M_same 148 = .ok (.aload_n 0, 1) := by decide +kernel
theorem d_M_same_149 : decode k_M_same 149 = .ok (.getfield 27, 3) := by decide +kernel
theorem d_M_same_152 : decode k_M_same 152 = .ok (.sipush 8192, 3) := by decide +kernel
theorem d_M_same_155 : decode k_M_same 155 = .ok (.iload_n 1, 1) := by decide +kernel
theorem d_M_same_156 : decode k_M_same 156 = .ok (.imul, 1) := by decide +kernel
theorem d_M_same_157 : decode k_M_same 157 = .ok (.iload 4, 2) := by decide +kernel
theorem d_M_same_159 : decode k_M_same 159 = .ok (.iadd, 1) := by decide +kernel
theorem d_M_same_160 : decode k_M_same 160 = .ok (.iaload, 1) := by decide +kernel
theorem d_M_same_161 : decode k_M_same 161 = .ok (.aload_n 0, 1) := by decide +kernel
theorem d_M_same_162 : decode k_M_same 162 = .ok (.getfield 27, 3) := by decide +kernel
theorem d_M_same_165 : decode k_M_same 165 = .ok (.sipush 8192, 3) := by decide +kernel
theorem d_M_same_168 : decode k_M_same 168 = .ok (.iload_n 2, 1) := by decide +kernel
theorem d_M_same_169 : decode k_M_same 169 = .ok (.imul, 1) := by decide +kernel
theorem d_M_same_170 : decode k_M_same 170 = .ok (.iload 4, 2) := by decide +kernel
theorem d_M_same_172 : decode k_M_same 172 = .ok (.iadd, 1) := by decide +kernel
theorem d_M_same_173 : decode k_M_same 173 = .ok (.iaload, 1) := by decide +kernel
theorem d_M_same_174 : decode k_M_same 174 = .ok (.if_icmp .ne 7, 3) := by decide +kernel
theorem d_M_same_177 : decode k_M_same 177 = .ok (.iconst 1, 1) := by decide +kernel
theorem d_M_same_178 : decode k_M_same 178 = .ok (.goto 4, 3) := by decide +kernel
theorem d_M_same_181 : decode k_M_same 181 = .ok (.iconst 0, 1) := by decide +kernel
theorem d_M_same_182 : decode k_M_same 182 = .ok (.istore_n 3, 1) := by decide +kernel
theorem d_M_same_183 : decode k_M_same 183 = .ok (.iinc 4 1, 3) := by decide +kernel
theorem d_M_same_186 : decode k_M_same 186 = .ok (.goto (-55), 3) := by decide +kernel
theorem d_M_same_189 : decode k_M_same 189 = .ok (.iload_n 3, 1) := by decide +kernel
theorem d_M_same_190 : decode k_M_same 190 = .ok (.ireturn, 1) := by decide +kernel
theorem d_M_plan_0 : decode k_M_plan 0 = .ok (.aload_n 0, 1) := by decide +kernel
theorem d_M_plan_1 : decode k_M_plan 1 = .ok (.iconst 0, 1) := by decide +kernel
theorem d_M_plan_2 : decode k_M_plan 2 = .ok (.putfield 59, 3) := by decide +kernel
theorem d_M_plan_5 : decode k_M_plan 5 = .ok (.iload_n 1, 1) := by decide +kernel
theorem d_M_plan_6 : decode k_M_plan 6 = .ok (.invokestatic 186, 3) := by decide +kernel
theorem d_M_plan_9 : decode k_M_plan 9 = .ok (.ifCond .eq 34, 3) := by decide +kernel
theorem d_M_plan_12 : decode k_M_plan 12 = .ok (.iload_n 2, 1) := by decide +kernel
theorem d_M_plan_13 : decode k_M_plan 13 = .ok (.iconst 0, 1) := by decide +kernel
theorem d_M_plan_14 : decode k_M_plan 14 = .ok (.aload_n 0, 1) := by decide +kernel
theorem d_M_plan_15 : decode k_M_plan 15 = .ok (.getfield 23, 3) := by decide +kernel
theorem d_M_plan_18 : decode k_M_plan 18 = .ok (.iload_n 1, 1) := by decide +kernel
theorem d_M_plan_19 : decode k_M_plan 19 = .ok (.iaload, 1) := by decide +kernel
theorem d_M_plan_20 : decode k_M_plan 20 = .ok (.iconst 1, 1) := by decide +kernel
theorem d_M_plan_21 : decode k_M_plan 21 = .ok (.isub, 1) := by decide +kernel
theorem d_M_plan_22 : decode k_M_plan 22 = .ok (.invokestatic 62, 3) := by decide +kernel
theorem d_M_plan_25 : decode k_M_plan 25 = .ok (.ifCond .eq 18, 3) := by decide +kernel
theorem d_M_plan_28 : decode k_M_plan 28 = .ok (.aload_n 0, 1) := by decide +kernel
theorem d_M_plan_29 : decode k_M_plan 29 = .ok (.getfield 20, 3) := by decide +kernel
theorem d_M_plan_32 : decode k_M_plan 32 = .ok (.sipush 4096, 3) := by decide +kernel
theorem d_M_plan_35 : decode k_M_plan 35 = .ok (.iload_n 1, 1) := by decide +kernel
theorem d_M_plan_36 : decode k_M_plan 36 = .ok (.imul, 1) := by decide +kernel
theorem d_M_plan_37 : decode k_M_plan 37 = .ok (.iload_n 2, 1) := by decide +kernel
theorem d_M_plan_38 : decode k_M_plan 38 = .ok (.iadd, 1) := by decide +kernel
theorem d_M_plan_39 : decode k_M_plan 39 = .ok (.iaload, 1) := by decide +kernel
theorem d_M_plan_40 : decode k_M_plan 40 = .ok (.goto 8, 3) := by decide +kernel
theorem d_M_plan_43 : decode k_M_plan 43 = .ok (.aload_n 0, 1) := by decide +kernel
theorem d_M_plan_44 : decode k_M_plan 44 = .ok (.iconst 1, 1) := by decide +kernel
theorem d_M_plan_45 : decode k_M_plan 45 = .ok (.invokevirtual 69, 3) := by decide +kernel
theorem d_M_plan_48 : decode k_M_plan 48 = .ok (.ireturn, 1) := by decide +kernel
theorem d_M_ordinate_0 : decode k_M_ordinate 0 = .ok (.aload_n 0, 1) := by decide +kernel
theorem d_M_ordinate_1 : decode k_M_ordinate 1 = .ok (.iconst 0, 1) := by decide +kernel
theorem d_M_ordinate_2 : decode k_M_ordinate 2 = .ok (.putfield 59, 3) := by decide +kernel
theorem d_M_ordinate_5 : decode k_M_ordinate 5 = .ok (.iload_n 1, 1) := by decide +kernel
theorem d_M_ordinate_6 : decode k_M_ordinate 6 = .ok (.invokestatic 186, 3) := by decide +kernel
theorem d_M_ordinate_9 : decode k_M_ordinate 9 = .ok (.ifCond .eq 47, 3) := by decide +kernel
theorem d_M_ordinate_12 : decode k_M_ordinate 12 = .ok (.iload_n 2, 1) := by decide +kernel
theorem d_M_ordinate_13 : decode k_M_ordinate 13 = .ok (.iconst 0, 1) := by decide +kernel
theorem d_M_ordinate_14 : decode k_M_ordinate 14 = .ok (.aload_n 0, 1) := by decide +kernel
theorem d_M_ordinate_15 : decode k_M_ordinate 15 = .ok (.getfield 30, 3) := by decide +kernel
theorem d_M_ordinate_18 : decode k_M_ordinate 18 = .ok (.iload_n 1, 1) := by decide +kernel
theorem d_M_ordinate_19 : decode k_M_ordinate 19 = .ok (.iaload, 1) := by decide +kernel
theorem d_M_ordinate_20 : decode k_M_ordinate 20 = .ok (.iconst 1, 1) := by decide +kernel
theorem d_M_ordinate_21 : decode k_M_ordinate 21 = .ok (.isub, 1) := by decide +kernel
theorem d_M_ordinate_22 : decode k_M_ordinate 22 = .ok (.invokestatic 62, 3) := by decide +kernel
theorem d_M_ordinate_25 : decode k_M_ordinate 25 = .ok (.ifCond .eq 31, 3) := by decide +kernel
theorem d_M_ordinate_28 : decode k_M_ordinate 28 = .ok (.iload_n 3, 1) := by decide +kernel
theorem d_M_ordinate_29 : decode k_M_ordinate 29 = .ok (.iconst 0, 1) := by decide +kernel
theorem d_M_ordinate_30 : decode k_M_ordinate 30 = .ok (.iconst 1, 1) := by decide +kernel
theorem d_M_ordinate_31 : decode k_M_ordinate 31 = .ok (.invokestatic 62, 3) := by decide +kernel
theorem d_M_ordinate_34 : decode k_M_ordinate 34 = .ok (.ifCond .eq 22, 3) := by decide +kernel
theorem d_M_ordinate_37 : decode k_M_ordinate 37 = .ok (.aload_n 0, 1) := by decide +kernel
theorem d_M_ordinate_38 : decode k_M_ordinate 38 = .ok (.getfield 27, 3) := by decide +kernel
theorem d_M_ordinate_41 : decode k_M_ordinate 41 = .ok (.iconst 2, 1) := by decide +kernel
theorem d_M_ordinate_42 : decode k_M_ordinate 42 = .ok (.sipush 4096, 3) := by decide +kernel
theorem d_M_ordinate_45 : decode k_M_ordinate 45 = .ok (.iload_n 1, 1) := by decide +kernel
theorem d_M_ordinate_46 : decode k_M_ordinate 46 = .ok (.imul, 1) := by decide +kernel
theorem d_M_ordinate_47 : decode k_M_ordinate 47 = .ok (.iload_n 2, 1) := by decide +kernel
theorem d_M_ordinate_48 : decode k_M_ordinate 48 = .ok (.iadd, 1) := by decide +kernel
theorem d_M_ordinate_49 : decode k_M_ordinate 49 = .ok (.imul, 1) := by decide +kernel
theorem d_M_ordinate_50 : decode k_M_ordinate 50 = .ok (.iload_n 3, 1) := by decide +kernel
theorem d_M_ordinate_51 : decode k_M_ordinate 51 = .ok (.iadd, 1) := by decide +kernel
theorem d_M_ordinate_52 : decode k_M_ordinate 52 = .ok (.iaload, 1) := by decide +kernel
theorem d_M_ordinate_53 : decode k_M_ordinate 53 = .ok (.goto 8, 3) := by decide +kernel
theorem d_M_ordinate_56 : decode k_M_ordinate 56 = .ok (.aload_n 0, 1) := by decide +kernel
theorem d_M_ordinate_57 : decode k_M_ordinate 57 = .ok (.iconst 1, 1) := by decide +kernel
theorem d_M_ordinate_58 : decode k_M_ordinate 58 = .ok (.invokevirtual 69, 3) := by decide +kernel
theorem d_M_ordinate_61 : decode k_M_ordinate 61 = .ok (.ireturn, 1) := by decide +kernel
theorem d_M_byteAt_0 : decode k_M_byteAt 0 = .ok (.aload_n 0, 1) := by decide +kernel
theorem d_M_byteAt_1 : decode k_M_byteAt 1 = .ok (.iconst 0, 1) := by decide +kernel
theorem d_M_byteAt_2 : decode k_M_byteAt 2 = .ok (.putfield 59, 3) := by decide +kernel
theorem d_M_byteAt_5 : decode k_M_byteAt 5 = .ok (.iload_n 1, 1) := by decide +kernel
theorem d_M_byteAt_6 : decode k_M_byteAt 6 = .ok (.iconst 0, 1) := by decide +kernel
theorem d_M_byteAt_7 : decode k_M_byteAt 7 = .ok (.aload_n 0, 1) := by decide +kernel
theorem d_M_byteAt_8 : decode k_M_byteAt 8 = .ok (.getfield 217, 3) := by decide +kernel
theorem d_M_byteAt_11 : decode k_M_byteAt 11 = .ok (.iconst 1, 1) := by decide +kernel
theorem d_M_byteAt_12 : decode k_M_byteAt 12 = .ok (.isub, 1) := by decide +kernel
theorem d_M_byteAt_13 : decode k_M_byteAt 13 = .ok (.invokestatic 62, 3) := by decide +kernel
theorem d_M_byteAt_16 : decode k_M_byteAt 16 = .ok (.ifCond .eq 12, 3) := by decide +kernel
theorem d_M_byteAt_19 : decode k_M_byteAt 19 = .ok (.aload_n 0, 1) := by decide +kernel
theorem d_M_byteAt_20 : decode k_M_byteAt 20 = .ok (.getfield 34, 3) := by decide +kernel
theorem d_M_byteAt_23 : decode k_M_byteAt 23 = .ok (.iload_n 1, 1) := by decide +kernel
theorem d_M_byteAt_24 : decode k_M_byteAt 24 = .ok (.iaload, 1) := by decide +kernel
theorem d_M_byteAt_25 : decode k_M_byteAt 25 = .ok (.goto 8, 3) := by decide +kernel
theorem d_M_byteAt_28 : decode k_M_byteAt 28 = .ok (.aload_n 0, 1) := by decide +kernel
theorem d_M_byteAt_29 : decode k_M_byteAt 29 = .ok (.iconst 1, 1) := by decide +kernel
theorem d_M_byteAt_30 : decode k_M_byteAt 30 = .ok (.invokevirtual 69, 3) := by decide +kernel
theorem d_M_byteAt_33 : decode k_M_byteAt 33 = .ok (.ireturn, 1) := by decide +kernel
theorem d_M_count_0 : decode k_M_count 0 = .ok (.aload_n 0, 1) := by decide +kernel
theorem d_M_count_1 : decode k_M_count 1 = .ok (.iconst 0, 1) := by decide +kernel
theorem d_M_count_2 : decode k_M_count 2 = .ok (.putfield 59, 3) := by decide +kernel
theorem d_M_count_5 : decode k_M_count 5 = .ok (.iload_n 1, 1) := by decide +kernel
theorem d_M_count_6 : decode k_M_count 6 = .ok (.invokestatic 186, 3) := by decide +kernel
theorem d_M_count_9 : decode k_M_count 9 = .ok (.ifCond .eq 12, 3) := by decide +kernel
theorem d_M_count_12 : decode k_M_count 12 = .ok (.iload_n 2, 1) := by decide +kernel
theorem d_M_count_13 : decode k_M_count 13 = .ok (.iconst 0, 1) := by decide +kernel
theorem d_M_count_14 : decode k_M_count 14 = .ok (.iconst 3, 1) := by decide +kernel
theorem d_M_count_15 : decode k_M_count 15 = .ok (.invokestatic 62, 3) := by decide +kernel
theorem d_M_count_18 : decode k_M_count 18 = .ok (.ifCond .ne 9, 3) := by decide +kernel
theorem d_M_count_21 : decode k_M_count 21 = .ok (.aload_n 0, 1) := by decide +kernel
theorem d_M_count_22 : decode k_M_count 22 = .ok (.iconst 1, 1) := by decide +kernel
theorem d_M_count_23 : decode k_M_count 23 = .ok (.invokevirtual 69, 3) := by decide +kernel
theorem d_M_count_26 : decode k_M_count 26 = .ok (.ireturn, 1) := by decide +kernel
theorem d_M_count_27 : decode k_M_count 27 = .ok (.iload_n 2, 1) := by decide +kernel
theorem d_M_count_28 : decode k_M_count 28 = .ok (.ifCond .ne 12, 3) := by decide +kernel
theorem d_M_count_31 : decode k_M_count 31 = .ok (.aload_n 0, 1) := by decide +kernel
theorem d_M_count_32 : decode k_M_count 32 = .ok (.getfield 23, 3) := by decide +kernel
theorem d_M_count_35 : decode k_M_count 35 = .ok (.iload_n 1, 1) := by decide +kernel
theorem d_M_count_36 : decode k_M_count 36 = .ok (.iaload, 1) := by decide +kernel
theorem d_M_count_37 : decode k_M_count 37 = .ok (.goto 33, 3) := by decide +kernel
theorem d_M_count_40 : decode k_M_count 40 = .ok (.iload_n 2, 1) := by decide +kernel
theorem d_M_count_41 : decode k_M_count 41 = .ok (.iconst 1, 1) := by decide +kernel
theorem d_M_count_42 : decode k_M_count 42 = .ok (.if_icmp .ne 12, 3) := by decide +kernel
theorem d_M_count_45 : decode k_M_count 45 = .ok (.aload_n 0, 1) := by decide +kernel
theorem d_M_count_46 : decode k_M_count 46 = .ok (.getfield 30, 3) := by decide +kernel
theorem d_M_count_49 : decode k_M_count 49 = .ok (.iload_n 1, 1) := by decide +kernel
theorem d_M_count_50 : decode k_M_count 50 = .ok (.iaload, 1) := by decide +kernel
theorem d_M_count_51 : decode k_M_count 51 = .ok (.goto 19, 3) := by decide +kernel
theorem d_M_count_54 : decode k_M_count 54 = .ok (.iload_n 2, 1) := by decide +kernel
theorem d_M_count_55 : decode k_M_count 55 = .ok (.iconst 2, 1) := by decide +kernel
theorem d_M_count_56 : decode k_M_count 56 = .ok (.if_icmp .ne 10, 3) := by decide +kernel
theorem d_M_count_59 : decode k_M_count 59 = .ok (.aload_n 0, 1) := by decide +kernel
theorem d_M_count_60 : decode k_M_count 60 = .ok (.getfield 66, 3) := by decide +kernel
theorem d_M_count_63 : decode k_M_count 63 = .ok (.goto 7, 3) := by decide +kernel
theorem d_M_count_66 : decode k_M_count 66 = .ok (.aload_n 0, 1) := by decide +kernel
theorem d_M_count_67 : decode k_M_count 67 = .ok (.getfield 217, 3) := by decide +kernel
theorem d_M_count_70 : decode k_M_count 70 = .ok (.ireturn, 1) := by decide +kernel
end
section
theorem d_L_cell_0 : decode k_L_cell 0 = .ok (.iload_n 1, 1) := by decide +kernel
theorem d_L_cell_1 : decode k_L_cell 1 = .ok (.aload_n 0, 1) := by decide +kernel
theorem d_L_cell_2 : decode k_L_cell 2 = .ok (.arraylength, 1) := by decide +kernel
theorem d_L_cell_3 : decode k_L_cell 3 = .ok (.if_icmp .ge 9, 3) := by decide +kernel
theorem d_L_cell_6 : decode k_L_cell 6 = .ok (.aload_n 0, 1) := by decide +kernel
theorem d_L_cell_7 : decode k_L_cell 7 = .ok (.iload_n 1, 1) := by decide +kernel
theorem d_L_cell_8 : decode k_L_cell 8 = .ok (.iaload, 1) := by decide +kernel
theorem d_L_cell_9 : decode k_L_cell 9 = .ok (.goto 4, 3) := by decide +kernel
theorem d_L_cell_12 : decode k_L_cell 12 = .ok (.iconst 0, 1) := by decide +kernel
theorem d_L_cell_13 : decode k_L_cell 13 = .ok (.ireturn, 1) := by decide +kernel
theorem d_L_feed_0 : decode k_L_feed 0 = .ok (.aload 6, 2) := by decide +kernel
theorem d_L_feed_2 : decode k_L_feed 2 = .ok (.iconst 0, 1) := by decide +kernel
theorem d_L_feed_3 : decode k_L_feed 3 = .ok (.aload_n 0, 1) := by decide +kernel
theorem d_L_feed_4 : decode k_L_feed 4 = .ok (.iload_n 1, 1) := by decide +kernel
theorem d_L_feed_5 : decode k_L_feed 5 = .ok (.iload_n 2, 1) := by decide +kernel
theorem d_L_feed_6 : decode k_L_feed 6 = .ok (.iload_n 3, 1) := by decide +kernel
theorem d_L_feed_7 : decode k_L_feed 7 = .ok (.iload 4, 2) := by decide +kernel
theorem d_L_feed_9 : decode k_L_feed 9 = .ok (.iload 5, 2) := by decide +kernel
theorem d_L_feed_11 : decode k_L_feed 11 = .ok (.invokevirtual 7, 3) := by decide +kernel
theorem d_L_feed_14 : decode k_L_feed 14 = .ok (.i2l, 1) := by decide +kernel
theorem d_L_feed_15 : decode k_L_feed 15 = .ok (.lastore, 1) := by decide +kernel
theorem d_L_feed_16 : decode k_L_feed 16 = .ok (.goto 7, 3) := by decide +kernel
theorem d_L_feed_19 : decode k_L_feed 19 = .ok (.astore 7, 2) := by decide +kernel
theorem d_L_feed_21 : decode k_L_feed 21 = .ok (.iconst 1, 1) := by decide +kernel
theorem d_L_feed_22 : decode k_L_feed 22 = .ok (.ireturn, 1) := by decide +kernel
theorem d_L_feed_23 : decode k_L_feed 23 = .ok (.iconst 0, 1) := by decide +kernel
theorem d_L_feed_24 : decode k_L_feed 24 = .ok (.ireturn, 1) := by decide +kernel
theorem d_L_end_0 : decode k_L_end 0 = .ok (.aload_n 2, 1) := by decide +kernel
theorem d_L_end_1 : decode k_L_end 1 = .ok (.iconst 0, 1) := by decide +kernel
theorem d_L_end_2 : decode k_L_end 2 = .ok (.aload_n 0, 1) := by decide +kernel
theorem d_L_end_3 : decode k_L_end 3 = .ok (.iload_n 1, 1) := by decide +kernel
theorem d_L_end_4 : decode k_L_end 4 = .ok (.invokevirtual 15, 3) := by decide +kernel
theorem d_L_end_7 : decode k_L_end 7 = .ok (.i2l, 1) := by decide +kernel
theorem d_L_end_8 : decode k_L_end 8 = .ok (.lastore, 1) := by decide +kernel
theorem d_L_end_9 : decode k_L_end 9 = .ok (.goto 9, 3) := by decide +kernel
theorem d_L_end_12 : decode k_L_end 12 = .ok (.astore_n 3, 1) := by decide +kernel
theorem d_L_end_13 : decode k_L_end 13 = .ok (.iconst 1, 1) := by decide +kernel
theorem d_L_end_14 : decode k_L_end 14 = .ok (.ireturn, 1) := by decide +kernel
theorem d_L_end_15 : decode k_L_end 15 = .ok (.astore_n 3, 1) := by decide +kernel
theorem d_L_end_16 : decode k_L_end 16 = .ok (.iconst 2, 1) := by decide +kernel
theorem d_L_end_17 : decode k_L_end 17 = .ok (.ireturn, 1) := by decide +kernel
theorem d_L_end_18 : decode k_L_end 18 = .ok (.iconst 0, 1) := by decide +kernel
theorem d_L_end_19 : decode k_L_end 19 = .ok (.ireturn, 1) := by decide +kernel
theorem d_L_read_0 : decode k_L_read 0 = .ok (.aload_n 2, 1) := by decide +kernel
theorem d_L_read_1 : decode k_L_read 1 = .ok (.iconst 0, 1) := by decide +kernel
theorem d_L_read_2 : decode k_L_read 2 = .ok (.aload_n 0, 1) := by decide +kernel
theorem d_L_read_3 : decode k_L_read 3 = .ok (.iload_n 1, 1) := by decide +kernel
theorem d_L_read_4 : decode k_L_read 4 = .ok (.invokevirtual 21, 3) := by decide +kernel
theorem d_L_read_7 : decode k_L_read 7 = .ok (.i2l, 1) := by decide +kernel
theorem d_L_read_8 : decode k_L_read 8 = .ok (.lastore, 1) := by decide +kernel
theorem d_L_read_9 : decode k_L_read 9 = .ok (.goto 9, 3) := by decide +kernel
theorem d_L_read_12 : decode k_L_read 12 = .ok (.astore_n 3, 1) := by decide +kernel
theorem d_L_read_13 : decode k_L_read 13 = .ok (.iconst 1, 1) := by decide +kernel
theorem d_L_read_14 : decode k_L_read 14 = .ok (.ireturn, 1) := by decide +kernel
theorem d_L_read_15 : decode k_L_read 15 = .ok (.astore_n 3, 1) := by decide +kernel
theorem d_L_read_16 : decode k_L_read 16 = .ok (.iconst 2, 1) := by decide +kernel
theorem d_L_read_17 : decode k_L_read 17 = .ok (.ireturn, 1) := by decide +kernel
theorem d_L_read_18 : decode k_L_read 18 = .ok (.iconst 0, 1) := by decide +kernel
theorem d_L_read_19 : decode k_L_read 19 = .ok (.ireturn, 1) := by decide +kernel
theorem d_L_fault_0 : decode k_L_fault 0 = .ok (.aload_n 2, 1) := by decide +kernel
theorem d_L_fault_1 : decode k_L_fault 1 = .ok (.iconst 0, 1) := by decide +kernel
theorem d_L_fault_2 : decode k_L_fault 2 = .ok (.aload_n 0, 1) := by decide +kernel
theorem d_L_fault_3 : decode k_L_fault 3 = .ok (.iload_n 1, 1) := by decide +kernel
theorem d_L_fault_4 : decode k_L_fault 4 = .ok (.invokevirtual 26, 3) := by decide +kernel
theorem d_L_fault_7 : decode k_L_fault 7 = .ok (.i2l, 1) := by decide +kernel
theorem d_L_fault_8 : decode k_L_fault 8 = .ok (.lastore, 1) := by decide +kernel
theorem d_L_fault_9 : decode k_L_fault 9 = .ok (.goto 6, 3) := by decide +kernel
theorem d_L_fault_12 : decode k_L_fault 12 = .ok (.astore_n 3, 1) := by decide +kernel
theorem d_L_fault_13 : decode k_L_fault 13 = .ok (.iconst 1, 1) := by decide +kernel
theorem d_L_fault_14 : decode k_L_fault 14 = .ok (.ireturn, 1) := by decide +kernel
theorem d_L_fault_15 : decode k_L_fault 15 = .ok (.iconst 0, 1) := by decide +kernel
theorem d_L_fault_16 : decode k_L_fault 16 = .ok (.ireturn, 1) := by decide +kernel
theorem d_L_write_0 : decode k_L_write 0 = .ok (.aload_n 2, 1) := by decide +kernel
theorem d_L_write_1 : decode k_L_write 1 = .ok (.iconst 0, 1) := by decide +kernel
theorem d_L_write_2 : decode k_L_write 2 = .ok (.aload_n 0, 1) := by decide +kernel
theorem d_L_write_3 : decode k_L_write 3 = .ok (.iload_n 1, 1) := by decide +kernel
theorem d_L_write_4 : decode k_L_write 4 = .ok (.invokevirtual 29, 3) := by decide +kernel
theorem d_L_write_7 : decode k_L_write 7 = .ok (.i2l, 1) := by decide +kernel
theorem d_L_write_8 : decode k_L_write 8 = .ok (.lastore, 1) := by decide +kernel
theorem d_L_write_9 : decode k_L_write 9 = .ok (.goto 12, 3) := by decide +kernel
theorem d_L_write_12 : decode k_L_write 12 = .ok (.astore_n 3, 1) := by decide +kernel
theorem d_L_write_13 : decode k_L_write 13 = .ok (.iconst 1, 1) := by decide +kernel
theorem d_L_write_14 : decode k_L_write 14 = .ok (.ireturn, 1) := by decide +kernel
theorem d_L_write_15 : decode k_L_write 15 = .ok (.astore_n 3, 1) := by decide +kernel
theorem d_L_write_16 : decode k_L_write 16 = .ok (.iconst 2, 1) := by decide +kernel
theorem d_L_write_17 : decode k_L_write 17 = .ok (.ireturn, 1) := by decide +kernel
theorem d_L_write_18 : decode k_L_write 18 = .ok (.astore_n 3, 1) := by decide +kernel
theorem d_L_write_19 : decode k_L_write 19 = .ok (.iconst 3, 1) := by decide +kernel
theorem d_L_write_20 : decode k_L_write 20 = .ok (.ireturn, 1) := by decide +kernel
theorem d_L_write_21 : decode k_L_write 21 = .ok (.iconst 0, 1) := by decide +kernel
theorem d_L_write_22 : decode k_L_write 22 = .ok (.ireturn, 1) := by decide +kernel
theorem d_L_same_0 : decode k_L_same 0 = .ok (.aload_n 3, 1) := by decide +kernel
theorem d_L_same_1 : decode k_L_same 1 = .ok (.iconst 0, 1) := by decide +kernel
theorem d_L_same_2 : decode k_L_same 2 = .ok (.aload_n 0, 1) := by decide +kernel
theorem d_L_same_3 : decode k_L_same 3 = .ok (.iload_n 1, 1) := by decide +kernel
theorem d_L_same_4 : decode k_L_same 4 = .ok (.iload_n 2, 1) := by decide +kernel
theorem d_L_same_5 : decode k_L_same 5 = .ok (.invokevirtual 34, 3) := by decide +kernel
theorem d_L_same_8 : decode k_L_same 8 = .ok (.ifCond .eq 7, 3) := by decide +kernel
theorem d_L_same_11 : decode k_L_same 11 = .ok (.lconst 1, 1) := by decide +kernel
theorem d_L_same_12 : decode k_L_same 12 = .ok (.goto 4, 3) := by decide +kernel
theorem d_L_same_15 : decode k_L_same 15 = .ok (.lconst 0, 1) := by decide +kernel
theorem d_L_same_16 : decode k_L_same 16 = .ok (.lastore, 1) := by decide +kernel
theorem d_L_same_17 : decode k_L_same 17 = .ok (.goto 7, 3) := by decide +kernel
theorem d_L_same_20 : decode k_L_same 20 = .ok (.astore 4, 2) := by decide +kernel
theorem d_L_same_22 : decode k_L_same 22 = .ok (.iconst 1, 1) := by decide +kernel
theorem d_L_same_23 : decode k_L_same 23 = .ok (.ireturn, 1) := by decide +kernel
theorem d_L_same_24 : decode k_L_same 24 = .ok (.iconst 0, 1) := by decide +kernel
theorem d_L_same_25 : decode k_L_same 25 = .ok (.ireturn, 1) := by decide +kernel
theorem d_L_plan_0 : decode k_L_plan 0 = .ok (.aload_n 3, 1) := by decide +kernel
theorem d_L_plan_1 : decode k_L_plan 1 = .ok (.iconst 0, 1) := by decide +kernel
theorem d_L_plan_2 : decode k_L_plan 2 = .ok (.aload_n 0, 1) := by decide +kernel
theorem d_L_plan_3 : decode k_L_plan 3 = .ok (.iload_n 1, 1) := by decide +kernel
theorem d_L_plan_4 : decode k_L_plan 4 = .ok (.iload_n 2, 1) := by decide +kernel
theorem d_L_plan_5 : decode k_L_plan 5 = .ok (.invokevirtual 38, 3) := by decide +kernel
theorem d_L_plan_8 : decode k_L_plan 8 = .ok (.i2l, 1) := by decide +kernel
theorem d_L_plan_9 : decode k_L_plan 9 = .ok (.lastore, 1) := by decide +kernel
theorem d_L_plan_10 : decode k_L_plan 10 = .ok (.goto 7, 3) := by decide +kernel
theorem d_L_plan_13 : decode k_L_plan 13 = .ok (.astore 4, 2) := by decide +kernel
theorem d_L_plan_15 : decode k_L_plan 15 = .ok (.iconst 1, 1) := by decide +kernel
theorem d_L_plan_16 : decode k_L_plan 16 = .ok (.ireturn, 1) := by decide +kernel
theorem d_L_plan_17 : decode k_L_plan 17 = .ok (.iconst 0, 1) := by decide +kernel
theorem d_L_plan_18 : decode k_L_plan 18 = .ok (.ireturn, 1) := by decide +kernel
theorem d_L_ordinate_0 : decode k_L_ordinate 0 = .ok (.aload 4, 2) := by decide +kernel
theorem d_L_ordinate_2 : decode k_L_ordinate 2 = .ok (.iconst 0, 1) := by decide +kernel
theorem d_L_ordinate_3 : decode k_L_ordinate 3 = .ok (.aload_n 0, 1) := by decide +kernel
theorem d_L_ordinate_4 : decode k_L_ordinate 4 = .ok (.iload_n 1, 1) := by decide +kernel
theorem d_L_ordinate_5 : decode k_L_ordinate 5 = .ok (.iload_n 2, 1) := by decide +kernel
theorem d_L_ordinate_6 : decode k_L_ordinate 6 = .ok (.iload_n 3, 1) := by decide +kernel
theorem d_L_ordinate_7 : decode k_L_ordinate 7 = .ok (.invokevirtual 42, 3) := by decide +kernel
theorem d_L_ordinate_10 : decode k_L_ordinate 10 = .ok (.i2l, 1) := by decide +kernel
theorem d_L_ordinate_11 : decode k_L_ordinate 11 = .ok (.lastore, 1) := by decide +kernel
theorem d_L_ordinate_12 : decode k_L_ordinate 12 = .ok (.goto 7, 3) := by decide +kernel
theorem d_L_ordinate_15 : decode k_L_ordinate 15 = .ok (.astore 5, 2) := by decide +kernel
theorem d_L_ordinate_17 : decode k_L_ordinate 17 = .ok (.iconst 1, 1) := by decide +kernel
theorem d_L_ordinate_18 : decode k_L_ordinate 18 = .ok (.ireturn, 1) := by decide +kernel
theorem d_L_ordinate_19 : decode k_L_ordinate 19 = .ok (.iconst 0, 1) := by decide +kernel
theorem d_L_ordinate_20 : decode k_L_ordinate 20 = .ok (.ireturn, 1) := by decide +kernel
theorem d_L_byteAt_0 : decode k_L_byteAt 0 = .ok (.aload_n 2, 1) := by decide +kernel
theorem d_L_byteAt_1 : decode k_L_byteAt 1 = .ok (.iconst 0, 1) := by decide +kernel
theorem d_L_byteAt_2 : decode k_L_byteAt 2 = .ok (.aload_n 0, 1) := by decide +kernel
theorem d_L_byteAt_3 : decode k_L_byteAt 3 = .ok (.iload_n 1, 1) := by decide +kernel
theorem d_L_byteAt_4 : decode k_L_byteAt 4 = .ok (.invokevirtual 46, 3) := by decide +kernel
theorem d_L_byteAt_7 : decode k_L_byteAt 7 = .ok (.i2l, 1) := by decide +kernel
theorem d_L_byteAt_8 : decode k_L_byteAt 8 = .ok (.lastore, 1) := by decide +kernel
theorem d_L_byteAt_9 : decode k_L_byteAt 9 = .ok (.goto 6, 3) := by decide +kernel
theorem d_L_byteAt_12 : decode k_L_byteAt 12 = .ok (.astore_n 3, 1) := by decide +kernel
theorem d_L_byteAt_13 : decode k_L_byteAt 13 = .ok (.iconst 1, 1) := by decide +kernel
theorem d_L_byteAt_14 : decode k_L_byteAt 14 = .ok (.ireturn, 1) := by decide +kernel
theorem d_L_byteAt_15 : decode k_L_byteAt 15 = .ok (.iconst 0, 1) := by decide +kernel
theorem d_L_byteAt_16 : decode k_L_byteAt 16 = .ok (.ireturn, 1) := by decide +kernel
theorem d_L_count_0 : decode k_L_count 0 = .ok (.aload_n 3, 1) := by decide +kernel
theorem d_L_count_1 : decode k_L_count 1 = .ok (.iconst 0, 1) := by decide +kernel
theorem d_L_count_2 : decode k_L_count 2 = .ok (.aload_n 0, 1) := by decide +kernel
theorem d_L_count_3 : decode k_L_count 3 = .ok (.iload_n 1, 1) := by decide +kernel
theorem d_L_count_4 : decode k_L_count 4 = .ok (.iload_n 2, 1) := by decide +kernel
theorem d_L_count_5 : decode k_L_count 5 = .ok (.invokevirtual 49, 3) := by decide +kernel
theorem d_L_count_8 : decode k_L_count 8 = .ok (.i2l, 1) := by decide +kernel
theorem d_L_count_9 : decode k_L_count 9 = .ok (.lastore, 1) := by decide +kernel
theorem d_L_count_10 : decode k_L_count 10 = .ok (.goto 7, 3) := by decide +kernel
theorem d_L_count_13 : decode k_L_count 13 = .ok (.astore 4, 2) := by decide +kernel
theorem d_L_count_15 : decode k_L_count 15 = .ok (.iconst 1, 1) := by decide +kernel
theorem d_L_count_16 : decode k_L_count 16 = .ok (.ireturn, 1) := by decide +kernel
theorem d_L_count_17 : decode k_L_count 17 = .ok (.iconst 0, 1) := by decide +kernel
theorem d_L_count_18 : decode k_L_count 18 = .ok (.ireturn, 1) := by decide +kernel
theorem d_L_law_0 : decode k_L_law 0 = .ok (.new 8, 3) := by decide +kernel
theorem d_L_law_3 : decode k_L_law 3 = .ok (.dup, 1) := by decide +kernel
theorem d_L_law_4 : decode k_L_law 4 = .ok (.aload_n 0, 1) := by decide +kernel
theorem d_L_law_5 : decode k_L_law 5 = .ok (.iconst 0, 1) := by decide +kernel
theorem d_L_law_6 : decode k_L_law 6 = .ok (.invokestatic 52, 3) := by decide +kernel
theorem d_L_law_9 : decode k_L_law 9 = .ok (.aload_n 0, 1) := by decide +kernel
theorem d_L_law_10 : decode k_L_law 10 = .ok (.iconst 1, 1) := by decide +kernel
theorem d_L_law_11 : decode k_L_law 11 = .ok (.invokestatic 52, 3) := by decide +kernel
theorem d_L_law_14 : decode k_L_law 14 = .ok (.aload_n 0, 1) := by decide +kernel
theorem d_L_law_15 : decode k_L_law 15 = .ok (.iconst 2, 1) := by decide +kernel
theorem d_L_law_16 : decode k_L_law 16 = .ok (.invokestatic 52, 3) := by decide +kernel
theorem d_L_law_19 : decode k_L_law 19 = .ok (.invokespecial 58, 3) := by decide +kernel
theorem d_L_law_22 : decode k_L_law 22 = .ok (.astore_n 1, 1) := by decide +kernel
theorem d_L_law_23 : decode k_L_law 23 = .ok (.new 61, 3) := by decide +kernel
theorem d_L_law_26 : decode k_L_law 26 = .ok (.dup, 1) := by decide +kernel
theorem d_L_law_27 : decode k_L_law 27 = .ok (.aload_n 0, 1) := by decide +kernel
theorem d_L_law_28 : decode k_L_law 28 = .ok (.iconst 0, 1) := by decide +kernel
theorem d_L_law_29 : decode k_L_law 29 = .ok (.invokestatic 52, 3) := by decide +kernel
theorem d_L_law_32 : decode k_L_law 32 = .ok (.aload_n 0, 1) := by decide +kernel
theorem d_L_law_33 : decode k_L_law 33 = .ok (.iconst 1, 1) := by decide +kernel
theorem d_L_law_34 : decode k_L_law 34 = .ok (.invokestatic 52, 3) := by decide +kernel
theorem d_L_law_37 : decode k_L_law 37 = .ok (.aload_n 0, 1) := by decide +kernel
theorem d_L_law_38 : decode k_L_law 38 = .ok (.iconst 2, 1) := by decide +kernel
theorem d_L_law_39 : decode k_L_law 39 = .ok (.invokestatic 52, 3) := by decide +kernel
theorem d_L_law_42 : decode k_L_law 42 = .ok (.invokespecial 63, 3) := by decide +kernel
theorem d_L_law_45 : decode k_L_law 45 = .ok (.astore_n 2, 1) := by decide +kernel
theorem d_L_law_46 : decode k_L_law 46 = .ok (.iconst 1, 1) := by decide +kernel
theorem d_L_law_47 : decode k_L_law 47 = .ok (.newarray .long, 2) := by decide +kernel
theorem d_L_law_49 : decode k_L_law 49 = .ok (.astore_n 3, 1) := by decide +kernel
theorem d_L_law_50 : decode k_L_law 50 = .ok (.iconst 3, 1) := by decide +kernel
theorem d_L_law_51 : decode k_L_law 51 = .ok (.istore 4, 2) := by decide +kernel
theorem d_L_law_53 : decode k_L_law 53 = .ok (.iload 4, 2) := by decide +kernel
theorem d_L_law_55 : decode k_L_law 55 = .ok (.aload_n 0, 1) := by decide +kernel
theorem d_L_law_56 : decode k_L_law 56 = .ok (.arraylength, 1) := by decide +kernel
theorem d_L_law_57 : decode k_L_law 57 = .ok (.bipush 6, 2) := by decide +kernel
theorem d_L_law_59 : decode k_L_law 59 = .ok (.isub, 1) := by decide +kernel
theorem d_L_law_60 : decode k_L_law 60 = .ok (.if_icmp .gt 762, 3) := by decide +kernel
theorem d_L_law_63 : decode k_L_law 63 = .ok (.aload_n 0, 1) := by decide +kernel
theorem d_L_law_64 : decode k_L_law 64 = .ok (.iload 4, 2) := by decide +kernel
theorem d_L_law_66 : decode k_L_law 66 = .ok (.iaload, 1) := by decide +kernel
theorem d_L_law_67 : decode k_L_law 67 = .ok (.bipush 15, 2) := by decide +kernel
theorem d_L_law_69 : decode k_L_law 69 = .ok (.iand, 1) := by decide +kernel
theorem d_L_law_70 : decode k_L_law 70 = .ok (.tableswitch 746 0 10 #[58, 162, 218, 274, 330, 386, 399, 474, 542, 622, 678], 58) := by decide +kernel
theorem d_L_law_128 : decode k_L_law 128 = .ok (.aload_n 1, 1) := by decide +kernel
theorem d_L_law_129 : decode k_L_law 129 = .ok (.aload_n 0, 1) := by decide +kernel
theorem d_L_law_130 : decode k_L_law 130 = .ok (.iload 4, 2) := by decide +kernel
theorem d_L_law_132 : decode k_L_law 132 = .ok (.iconst 1, 1) := by decide +kernel
theorem d_L_law_133 : decode k_L_law 133 = .ok (.iadd, 1) := by decide +kernel
theorem d_L_law_134 : decode k_L_law 134 = .ok (.iaload, 1) := by decide +kernel
theorem d_L_law_135 : decode k_L_law 135 = .ok (.aload_n 0, 1) := by decide +kernel
theorem d_L_law_136 : decode k_L_law 136 = .ok (.iload 4, 2) := by decide +kernel
theorem d_L_law_138 : decode k_L_law 138 = .ok (.iconst 2, 1) := by decide +kernel
theorem d_L_law_139 : decode k_L_law 139 = .ok (.iadd, 1) := by decide +kernel
theorem d_L_law_140 : decode k_L_law 140 = .ok (.iaload, 1) := by decide +kernel
theorem d_L_law_141 : decode k_L_law 141 = .ok (.aload_n 0, 1) := by decide +kernel
theorem d_L_law_142 : decode k_L_law 142 = .ok (.iload 4, 2) := by decide +kernel
theorem d_L_law_144 : decode k_L_law 144 = .ok (.iconst 3, 1) := by decide +kernel
theorem d_L_law_145 : decode k_L_law 145 = .ok (.iadd, 1) := by decide +kernel
theorem d_L_law_146 : decode k_L_law 146 = .ok (.iaload, 1) := by decide +kernel
theorem d_L_law_147 : decode k_L_law 147 = .ok (.aload_n 0, 1) := by decide +kernel
theorem d_L_law_148 : decode k_L_law 148 = .ok (.iload 4, 2) := by decide +kernel
theorem d_L_law_150 : decode k_L_law 150 = .ok (.iconst 4, 1) := by decide +kernel
theorem d_L_law_151 : decode k_L_law 151 = .ok (.iadd, 1) := by decide +kernel
theorem d_L_law_152 : decode k_L_law 152 = .ok (.iaload, 1) := by decide +kernel
theorem d_L_law_153 : decode k_L_law 153 = .ok (.aload_n 0, 1) := by decide +kernel
theorem d_L_law_154 : decode k_L_law 154 = .ok (.iload 4, 2) := by decide +kernel
theorem d_L_law_156 : decode k_L_law 156 = .ok (.iconst 5, 1) := by decide +kernel
theorem d_L_law_157 : decode k_L_law 157 = .ok (.iadd, 1) := by decide +kernel
theorem d_L_law_158 : decode k_L_law 158 = .ok (.iaload, 1) := by decide +kernel
theorem d_L_law_159 : decode k_L_law 159 = .ok (.aload_n 3, 1) := by decide +kernel
theorem d_L_law_160 : decode k_L_law 160 = .ok (.invokestatic 64, 3) := by decide +kernel
theorem d_L_law_163 : decode k_L_law 163 = .ok (.istore 5, 2) := by decide +kernel
theorem d_L_law_165 : decode k_L_law 165 = .ok (.aload_n 2, 1) := by decide +kernel
theorem d_L_law_166 : decode k_L_law 166 = .ok (.aload_n 0, 1) := by decide +kernel
theorem d_L_law_167 : decode k_L_law 167 = .ok (.iload 4, 2) := by decide +kernel
theorem d_L_law_169 : decode k_L_law 169 = .ok (.iconst 1, 1) := by decide +kernel
theorem d_L_law_170 : decode k_L_law 170 = .ok (.iadd, 1) := by decide +kernel
theorem d_L_law_171 : decode k_L_law 171 = .ok (.iaload, 1) := by decide +kernel
theorem d_L_law_172 : decode k_L_law 172 = .ok (.aload_n 0, 1) := by decide +kernel
theorem d_L_law_173 : decode k_L_law 173 = .ok (.iload 4, 2) := by decide +kernel
theorem d_L_law_175 : decode k_L_law 175 = .ok (.iconst 2, 1) := by decide +kernel
theorem d_L_law_176 : decode k_L_law 176 = .ok (.iadd, 1) := by decide +kernel
theorem d_L_law_177 : decode k_L_law 177 = .ok (.iaload, 1) := by decide +kernel
theorem d_L_law_178 : decode k_L_law 178 = .ok (.aload_n 0, 1) := by decide +kernel
theorem d_L_law_179 : decode k_L_law 179 = .ok (.iload 4, 2) := by decide +kernel
theorem d_L_law_181 : decode k_L_law 181 = .ok (.iconst 3, 1) := by decide +kernel
theorem d_L_law_182 : decode k_L_law 182 = .ok (.iadd, 1) := by decide +kernel
theorem d_L_law_183 : decode k_L_law 183 = .ok (.iaload, 1) := by decide +kernel
theorem d_L_law_184 : decode k_L_law 184 = .ok (.aload_n 0, 1) := by decide +kernel
theorem d_L_law_185 : decode k_L_law 185 = .ok (.iload 4, 2) := by decide +kernel
theorem d_L_law_187 : decode k_L_law 187 = .ok (.iconst 4, 1) := by decide +kernel
theorem d_L_law_188 : decode k_L_law 188 = .ok (.iadd, 1) := by decide +kernel
theorem d_L_law_189 : decode k_L_law 189 = .ok (.iaload, 1) := by decide +kernel
theorem d_L_law_190 : decode k_L_law 190 = .ok (.aload_n 0, 1) := by decide +kernel
theorem d_L_law_191 : decode k_L_law 191 = .ok (.iload 4, 2) := by decide +kernel
theorem d_L_law_193 : decode k_L_law 193 = .ok (.iconst 5, 1) := by decide +kernel
theorem d_L_law_194 : decode k_L_law 194 = .ok (.iadd, 1) := by decide +kernel
theorem d_L_law_195 : decode k_L_law 195 = .ok (.iaload, 1) := by decide +kernel
theorem d_L_law_196 : decode k_L_law 196 = .ok (.invokevirtual 67, 3) := by decide +kernel
theorem d_L_law_199 : decode k_L_law 199 = .ok (.istore 6, 2) := by decide +kernel
theorem d_L_law_201 : decode k_L_law 201 = .ok (.aload_n 2, 1) := by decide +kernel
theorem d_L_law_202 : decode k_L_law 202 = .ok (.invokevirtual 68, 3) := by decide +kernel
theorem d_L_law_205 : decode k_L_law 205 = .ok (.iload 5, 2) := by decide +kernel
theorem d_L_law_207 : decode k_L_law 207 = .ok (.if_icmp .eq 5, 3) := by decide +kernel
theorem d_L_law_210 : decode k_L_law 210 = .ok (.iconst 0, 1) := by decide +kernel
theorem d_L_law_211 : decode k_L_law 211 = .ok (.ireturn, 1) := by decide +kernel
theorem d_L_law_212 : decode k_L_law 212 = .ok (.iload 5, 2) := by decide +kernel
theorem d_L_law_214 : decode k_L_law 214 = .ok (.ifCond .ne 15, 3) := by decide +kernel
theorem d_L_law_217 : decode k_L_law 217 = .ok (.aload_n 3, 1) := by decide +kernel
theorem d_L_law_218 : decode k_L_law 218 = .ok (.iconst 0, 1) := by decide +kernel
theorem d_L_law_219 : decode k_L_law 219 = .ok (.laload, 1) := by decide +kernel
theorem d_L_law_220 : decode k_L_law 220 = .ok (.iload 6, 2) := by decide +kernel
theorem d_L_law_222 : decode k_L_law 222 = .ok (.i2l, 1) := by decide +kernel
theorem d_L_law_223 : decode k_L_law 223 = .ok (.lcmp, 1) := by decide +kernel
theorem d_L_law_224 : decode k_L_law 224 = .ok (.ifCond .eq 5, 3) := by decide +kernel
theorem d_L_law_227 : decode k_L_law 227 = .ok (.iconst 0, 1) := by decide +kernel
theorem d_L_law_228 : decode k_L_law 228 = .ok (.ireturn, 1) := by decide +kernel
theorem d_L_law_229 : decode k_L_law 229 = .ok (.goto 587, 3) := by decide +kernel
theorem d_L_law_232 : decode k_L_law 232 = .ok (.aload_n 1, 1) := by decide +kernel
theorem d_L_law_233 : decode k_L_law 233 = .ok (.aload_n 0, 1) := by decide +kernel
theorem d_L_law_234 : decode k_L_law 234 = .ok (.iload 4, 2) := by decide +kernel
theorem d_L_law_236 : decode k_L_law 236 = .ok (.iconst 1, 1) := by decide +kernel
theorem d_L_law_237 : decode k_L_law 237 = .ok (.iadd, 1) := by decide +kernel
theorem d_L_law_238 : decode k_L_law 238 = .ok (.iaload, 1) := by decide +kernel
theorem d_L_law_239 : decode k_L_law 239 = .ok (.aload_n 3, 1) := by decide +kernel
theorem d_L_law_240 : decode k_L_law 240 = .ok (.invokestatic 72, 3) := by decide +kernel
theorem d_L_law_243 : decode k_L_law 243 = .ok (.istore 5, 2) := by decide +kernel
theorem d_L_law_245 : decode k_L_law 245 = .ok (.aload_n 2, 1) := by decide +kernel
theorem d_L_law_246 : decode k_L_law 246 = .ok (.aload_n 0, 1) := by decide +kernel
theorem d_L_law_247 : decode k_L_law 247 = .ok (.iload 4, 2) := by decide +kernel
theorem d_L_law_249 : decode k_L_law 249 = .ok (.iconst 1, 1) := by decide +kernel
theorem d_L_law_250 : decode k_L_law 250 = .ok (.iadd, 1) := by decide +kernel
theorem d_L_law_251 : decode k_L_law 251 = .ok (.iaload, 1) := by decide +kernel
theorem d_L_law_252 : decode k_L_law 252 = .ok (.invokevirtual 75, 3) := by decide +kernel
theorem d_L_law_255 : decode k_L_law 255 = .ok (.istore 6, 2) := by decide +kernel
theorem d_L_law_257 : decode k_L_law 257 = .ok (.aload_n 2, 1) := by decide +kernel
theorem d_L_law_258 : decode k_L_law 258 = .ok (.invokevirtual 68, 3) := by decide +kernel
theorem d_L_law_261 : decode k_L_law 261 = .ok (.iload 5, 2) := by decide +kernel
theorem d_L_law_263 : decode k_L_law 263 = .ok (.if_icmp .eq 5, 3) := by decide +kernel
theorem d_L_law_266 : decode k_L_law 266 = .ok (.iconst 0, 1) := by decide +kernel
theorem d_L_law_267 : decode k_L_law 267 = .ok (.ireturn, 1) := by decide +kernel
theorem d_L_law_268 : decode k_L_law 268 = .ok (.iload 5, 2) := by decide +kernel
theorem d_L_law_270 : decode k_L_law 270 = .ok (.ifCond .ne 15, 3) := by decide +kernel
theorem d_L_law_273 : decode k_L_law 273 = .ok (.aload_n 3, 1) := by decide +kernel
theorem d_L_law_274 : decode k_L_law 274 = .ok (.iconst 0, 1) := by decide +kernel
theorem d_L_law_275 : decode k_L_law 275 = .ok (.laload, 1) := by decide +kernel
theorem d_L_law_276 : decode k_L_law 276 = .ok (.iload 6, 2) := by decide +kernel
theorem d_L_law_278 : decode k_L_law 278 = .ok (.i2l, 1) := by decide +kernel
theorem d_L_law_279 : decode k_L_law 279 = .ok (.lcmp, 1) := by decide +kernel
theorem d_L_law_280 : decode k_L_law 280 = .ok (.ifCond .eq 5, 3) := by decide +kernel
theorem d_L_law_283 : decode k_L_law 283 = .ok (.iconst 0, 1) := by decide +kernel
theorem d_L_law_284 : decode k_L_law 284 = .ok (.ireturn, 1) := by decide +kernel
theorem d_L_law_285 : decode k_L_law 285 = .ok (.goto 531, 3) := by decide +kernel
theorem d_L_law_288 : decode k_L_law 288 = .ok (.aload_n 1, 1) := by decide +kernel
theorem d_L_law_289 : decode k_L_law 289 = .ok (.aload_n 0, 1) := by decide +kernel
theorem d_L_law_290 : decode k_L_law 290 = .ok (.iload 4, 2) := by decide +kernel
theorem d_L_law_292 : decode k_L_law 292 = .ok (.iconst 1, 1) := by decide +kernel
theorem d_L_law_293 : decode k_L_law 293 = .ok (.iadd, 1) := by decide +kernel
theorem d_L_law_294 : decode k_L_law 294 = .ok (.iaload, 1) := by decide +kernel
theorem d_L_law_295 : decode k_L_law 295 = .ok (.aload_n 3, 1) := by decide +kernel
theorem d_L_law_296 : decode k_L_law 296 = .ok (.invokestatic 76, 3) := by decide +kernel
theorem d_L_law_299 : decode k_L_law 299 = .ok (.istore 5, 2) := by decide +kernel
theorem d_L_law_301 : decode k_L_law 301 = .ok (.aload_n 2, 1) := by decide +kernel
theorem d_L_law_302 : decode k_L_law 302 = .ok (.aload_n 0, 1) := by decide +kernel
theorem d_L_law_303 : decode k_L_law 303 = .ok (.iload 4, 2) := by decide +kernel
theorem d_L_law_305 : decode k_L_law 305 = .ok (.iconst 1, 1) := by decide +kernel
theorem d_L_law_306 : decode k_L_law 306 = .ok (.iadd, 1) := by decide +kernel
theorem d_L_law_307 : decode k_L_law 307 = .ok (.iaload, 1) := by decide +kernel
theorem d_L_law_308 : decode k_L_law 308 = .ok (.invokevirtual 78, 3) := by decide +kernel
theorem d_L_law_311 : decode k_L_law 311 = .ok (.istore 6, 2) := by decide +kernel
theorem d_L_law_313 : decode k_L_law 313 = .ok (.aload_n 2, 1) := by decide +kernel
theorem d_L_law_314 : decode k_L_law 314 = .ok (.invokevirtual 68, 3) := by decide +kernel
theorem d_L_law_317 : decode k_L_law 317 = .ok (.iload 5, 2) := by decide +kernel
theorem d_L_law_319 : decode k_L_law 319 = .ok (.if_icmp .eq 5, 3) := by decide +kernel
theorem d_L_law_322 : decode k_L_law 322 = .ok (.iconst 0, 1) := by decide +kernel
theorem d_L_law_323 : decode k_L_law 323 = .ok (.ireturn, 1) := by decide +kernel
theorem d_L_law_324 : decode k_L_law 324 = .ok (.iload 5, 2) := by decide +kernel
theorem d_L_law_326 : decode k_L_law 326 = .ok (.ifCond .ne 15, 3) := by decide +kernel
theorem d_L_law_329 : decode k_L_law 329 = .ok (.aload_n 3, 1) := by decide +kernel
theorem d_L_law_330 : decode k_L_law 330 = .ok (.iconst 0, 1) := by decide +kernel
theorem d_L_law_331 : decode k_L_law 331 = .ok (.laload, 1) := by decide +kernel
theorem d_L_law_332 : decode k_L_law 332 = .ok (.iload 6, 2) := by decide +kernel
theorem d_L_law_334 : decode k_L_law 334 = .ok (.i2l, 1) := by decide +kernel
theorem d_L_law_335 : decode k_L_law 335 = .ok (.lcmp, 1) := by decide +kernel
theorem d_L_law_336 : decode k_L_law 336 = .ok (.ifCond .eq 5, 3) := by decide +kernel
theorem d_L_law_339 : decode k_L_law 339 = .ok (.iconst 0, 1) := by decide +kernel
theorem d_L_law_340 : decode k_L_law 340 = .ok (.ireturn, 1) := by decide +kernel
theorem d_L_law_341 : decode k_L_law 341 = .ok (.goto 475, 3) := by decide +kernel
theorem d_L_law_344 : decode k_L_law 344 = .ok (.aload_n 1, 1) := by decide +kernel
theorem d_L_law_345 : decode k_L_law 345 = .ok (.aload_n 0, 1) := by decide +kernel
theorem d_L_law_346 : decode k_L_law 346 = .ok (.iload 4, 2) := by decide +kernel
theorem d_L_law_348 : decode k_L_law 348 = .ok (.iconst 1, 1) := by decide +kernel
theorem d_L_law_349 : decode k_L_law 349 = .ok (.iadd, 1) := by decide +kernel
theorem d_L_law_350 : decode k_L_law 350 = .ok (.iaload, 1) := by decide +kernel
theorem d_L_law_351 : decode k_L_law 351 = .ok (.aload_n 3, 1) := by decide +kernel
theorem d_L_law_352 : decode k_L_law 352 = .ok (.invokestatic 79, 3) := by decide +kernel
theorem d_L_law_355 : decode k_L_law 355 = .ok (.istore 5, 2) := by decide +kernel
theorem d_L_law_357 : decode k_L_law 357 = .ok (.aload_n 2, 1) := by decide +kernel
theorem d_L_law_358 : decode k_L_law 358 = .ok (.aload_n 0, 1) := by decide +kernel
theorem d_L_law_359 : decode k_L_law 359 = .ok (.iload 4, 2) := by decide +kernel
theorem d_L_law_361 : decode k_L_law 361 = .ok (.iconst 1, 1) := by decide +kernel
theorem d_L_law_362 : decode k_L_law 362 = .ok (.iadd, 1) := by decide +kernel
theorem d_L_law_363 : decode k_L_law 363 = .ok (.iaload, 1) := by decide +kernel
theorem d_L_law_364 : decode k_L_law 364 = .ok (.invokevirtual 81, 3) := by decide +kernel
theorem d_L_law_367 : decode k_L_law 367 = .ok (.istore 6, 2) := by decide +kernel
theorem d_L_law_369 : decode k_L_law 369 = .ok (.aload_n 2, 1) := by decide +kernel
theorem d_L_law_370 : decode k_L_law 370 = .ok (.invokevirtual 68, 3) := by decide +kernel
theorem d_L_law_373 : decode k_L_law 373 = .ok (.iload 5, 2) := by decide +kernel
theorem d_L_law_375 : decode k_L_law 375 = .ok (.if_icmp .eq 5, 3) := by decide +kernel
theorem d_L_law_378 : decode k_L_law 378 = .ok (.iconst 0, 1) := by decide +kernel
theorem d_L_law_379 : decode k_L_law 379 = .ok (.ireturn, 1) := by decide +kernel
theorem d_L_law_380 : decode k_L_law 380 = .ok (.iload 5, 2) := by decide +kernel
theorem d_L_law_382 : decode k_L_law 382 = .ok (.ifCond .ne 15, 3) := by decide +kernel
theorem d_L_law_385 : decode k_L_law 385 = .ok (.aload_n 3, 1) := by decide +kernel
theorem d_L_law_386 : decode k_L_law 386 = .ok (.iconst 0, 1) := by decide +kernel
theorem d_L_law_387 : decode k_L_law 387 = .ok (.laload, 1) := by decide +kernel
theorem d_L_law_388 : decode k_L_law 388 = .ok (.iload 6, 2) := by decide +kernel
theorem d_L_law_390 : decode k_L_law 390 = .ok (.i2l, 1) := by decide +kernel
theorem d_L_law_391 : decode k_L_law 391 = .ok (.lcmp, 1) := by decide +kernel
theorem d_L_law_392 : decode k_L_law 392 = .ok (.ifCond .eq 5, 3) := by decide +kernel
theorem d_L_law_395 : decode k_L_law 395 = .ok (.iconst 0, 1) := by decide +kernel
theorem d_L_law_396 : decode k_L_law 396 = .ok (.ireturn, 1) := by decide +kernel
theorem d_L_law_397 : decode k_L_law 397 = .ok (.goto 419, 3) := by decide +kernel
theorem d_L_law_400 : decode k_L_law 400 = .ok (.aload_n 1, 1) := by decide +kernel
theorem d_L_law_401 : decode k_L_law 401 = .ok (.aload_n 0, 1) := by decide +kernel
theorem d_L_law_402 : decode k_L_law 402 = .ok (.iload 4, 2) := by decide +kernel
theorem d_L_law_404 : decode k_L_law 404 = .ok (.iconst 1, 1) := by decide +kernel
theorem d_L_law_405 : decode k_L_law 405 = .ok (.iadd, 1) := by decide +kernel
theorem d_L_law_406 : decode k_L_law 406 = .ok (.iaload, 1) := by decide +kernel
theorem d_L_law_407 : decode k_L_law 407 = .ok (.aload_n 3, 1) := by decide +kernel
theorem d_L_law_408 : decode k_L_law 408 = .ok (.invokestatic 82, 3) := by decide +kernel
theorem d_L_law_411 : decode k_L_law 411 = .ok (.istore 5, 2) := by decide +kernel
theorem d_L_law_413 : decode k_L_law 413 = .ok (.aload_n 2, 1) := by decide +kernel
theorem d_L_law_414 : decode k_L_law 414 = .ok (.aload_n 0, 1) := by decide +kernel
theorem d_L_law_415 : decode k_L_law 415 = .ok (.iload 4, 2) := by decide +kernel
theorem d_L_law_417 : decode k_L_law 417 = .ok (.iconst 1, 1) := by decide +kernel
theorem d_L_law_418 : decode k_L_law 418 = .ok (.iadd, 1) := by decide +kernel
theorem d_L_law_419 : decode k_L_law 419 = .ok (.iaload, 1) := by decide +kernel
theorem d_L_law_420 : decode k_L_law 420 = .ok (.invokevirtual 84, 3) := by decide +kernel
theorem d_L_law_423 : decode k_L_law 423 = .ok (.istore 6, 2) := by decide +kernel
theorem d_L_law_425 : decode k_L_law 425 = .ok (.aload_n 2, 1) := by decide +kernel
theorem d_L_law_426 : decode k_L_law 426 = .ok (.invokevirtual 68, 3) := by decide +kernel
theorem d_L_law_429 : decode k_L_law 429 = .ok (.iload 5, 2) := by decide +kernel
theorem d_L_law_431 : decode k_L_law 431 = .ok (.if_icmp .eq 5, 3) := by decide +kernel
theorem d_L_law_434 : decode k_L_law 434 = .ok (.iconst 0, 1) := by decide +kernel
theorem d_L_law_435 : decode k_L_law 435 = .ok (.ireturn, 1) := by decide +kernel
theorem d_L_law_436 : decode k_L_law 436 = .ok (.iload 5, 2) := by decide +kernel
theorem d_L_law_438 : decode k_L_law 438 = .ok (.ifCond .ne 15, 3) := by decide +kernel
theorem d_L_law_441 : decode k_L_law 441 = .ok (.aload_n 3, 1) := by decide +kernel
theorem d_L_law_442 : decode k_L_law 442 = .ok (.iconst 0, 1) := by decide +kernel
theorem d_L_law_443 : decode k_L_law 443 = .ok (.laload, 1) := by decide +kernel
theorem d_L_law_444 : decode k_L_law 444 = .ok (.iload 6, 2) := by decide +kernel
theorem d_L_law_446 : decode k_L_law 446 = .ok (.i2l, 1) := by decide +kernel
theorem d_L_law_447 : decode k_L_law 447 = .ok (.lcmp, 1) := by decide +kernel
theorem d_L_law_448 : decode k_L_law 448 = .ok (.ifCond .eq 5, 3) := by decide +kernel
theorem d_L_law_451 : decode k_L_law 451 = .ok (.iconst 0, 1) := by decide +kernel
theorem d_L_law_452 : decode k_L_law 452 = .ok (.ireturn, 1) := by decide +kernel
theorem d_L_law_453 : decode k_L_law 453 = .ok (.goto 363, 3) := by decide +kernel
theorem d_L_law_456 : decode k_L_law 456 = .ok (.aload_n 1, 1) := by decide +kernel
theorem d_L_law_457 : decode k_L_law 457 = .ok (.invokevirtual 85, 3) := by decide +kernel
theorem d_L_law_460 : decode k_L_law 460 = .ok (.aload_n 2, 1) := by decide +kernel
theorem d_L_law_461 : decode k_L_law 461 = .ok (.invokevirtual 88, 3) := by decide +kernel
theorem d_L_law_464 : decode k_L_law 464 = .ok (.if_icmp .eq 352, 3) := by decide +kernel
theorem d_L_law_467 : decode k_L_law 467 = .ok (.iconst 0, 1) := by decide +kernel
theorem d_L_law_468 : decode k_L_law 468 = .ok (.ireturn, 1) := by decide +kernel
theorem d_L_law_469 : decode k_L_law 469 = .ok (.aload_n 1, 1) := by decide +kernel
theorem d_L_law_470 : decode k_L_law 470 = .ok (.aload_n 0, 1) := by decide +kernel
theorem d_L_law_471 : decode k_L_law 471 = .ok (.iload 4, 2) := by decide +kernel
theorem d_L_law_473 : decode k_L_law 473 = .ok (.iconst 1, 1) := by decide +kernel
theorem d_L_law_474 : decode k_L_law 474 = .ok (.iadd, 1) := by decide +kernel
theorem d_L_law_475 : decode k_L_law 475 = .ok (.iaload, 1) := by decide +kernel
theorem d_L_law_476 : decode k_L_law 476 = .ok (.aload_n 0, 1) := by decide +kernel
theorem d_L_law_477 : decode k_L_law 477 = .ok (.iload 4, 2) := by decide +kernel
theorem d_L_law_479 : decode k_L_law 479 = .ok (.iconst 2, 1) := by decide +kernel
theorem d_L_law_480 : decode k_L_law 480 = .ok (.iadd, 1) := by decide +kernel
theorem d_L_law_481 : decode k_L_law 481 = .ok (.iaload, 1) := by decide +kernel
theorem d_L_law_482 : decode k_L_law 482 = .ok (.aload_n 3, 1) := by decide +kernel
theorem d_L_law_483 : decode k_L_law 483 = .ok (.invokestatic 89, 3) := by decide +kernel
theorem d_L_law_486 : decode k_L_law 486 = .ok (.istore 5, 2) := by decide +kernel
theorem d_L_law_488 : decode k_L_law 488 = .ok (.aload_n 2, 1) := by decide +kernel
theorem d_L_law_489 : decode k_L_law 489 = .ok (.aload_n 0, 1) := by decide +kernel
theorem d_L_law_490 : decode k_L_law 490 = .ok (.iload 4, 2) := by decide +kernel
theorem d_L_law_492 : decode k_L_law 492 = .ok (.iconst 1, 1) := by decide +kernel
theorem d_L_law_493 : decode k_L_law 493 = .ok (.iadd, 1) := by decide +kernel
theorem d_L_law_494 : decode k_L_law 494 = .ok (.iaload, 1) := by decide +kernel
theorem d_L_law_495 : decode k_L_law 495 = .ok (.aload_n 0, 1) := by decide +kernel
theorem d_L_law_496 : decode k_L_law 496 = .ok (.iload 4, 2) := by decide +kernel
theorem d_L_law_498 : decode k_L_law 498 = .ok (.iconst 2, 1) := by decide +kernel
theorem d_L_law_499 : decode k_L_law 499 = .ok (.iadd, 1) := by decide +kernel
theorem d_L_law_500 : decode k_L_law 500 = .ok (.iaload, 1) := by decide +kernel
theorem d_L_law_501 : decode k_L_law 501 = .ok (.invokevirtual 92, 3) := by decide +kernel
theorem d_L_law_504 : decode k_L_law 504 = .ok (.istore 6, 2) := by decide +kernel
theorem d_L_law_506 : decode k_L_law 506 = .ok (.aload_n 2, 1) := by decide +kernel
theorem d_L_law_507 : decode k_L_law 507 = .ok (.invokevirtual 68, 3) := by decide +kernel
theorem d_L_law_510 : decode k_L_law 510 = .ok (.iload 5, 2) := by decide +kernel
theorem d_L_law_512 : decode k_L_law 512 = .ok (.if_icmp .eq 5, 3) := by decide +kernel
theorem d_L_law_515 : decode k_L_law 515 = .ok (.iconst 0, 1) := by decide +kernel
theorem d_L_law_516 : decode k_L_law 516 = .ok (.ireturn, 1) := by decide +kernel
theorem d_L_law_517 : decode k_L_law 517 = .ok (.iload 5, 2) := by decide +kernel
theorem d_L_law_519 : decode k_L_law 519 = .ok (.ifCond .ne 22, 3) := by decide +kernel
theorem d_L_law_522 : decode k_L_law 522 = .ok (.aload_n 3, 1) := by decide +kernel
theorem d_L_law_523 : decode k_L_law 523 = .ok (.iconst 0, 1) := by decide +kernel
theorem d_L_law_524 : decode k_L_law 524 = .ok (.laload, 1) := by decide +kernel
theorem d_L_law_525 : decode k_L_law 525 = .ok (.iload 6, 2) := by decide +kernel
theorem d_L_law_527 : decode k_L_law 527 = .ok (.ifCond .eq 7, 3) := by decide +kernel
theorem d_L_law_530 : decode k_L_law 530 = .ok (.lconst 1, 1) := by decide +kernel
theorem d_L_law_531 : decode k_L_law 531 = .ok (.goto 4, 3) := by decide +kernel
theorem d_L_law_534 : decode k_L_law 534 = .ok (.lconst 0, 1) := by decide +kernel
theorem d_L_law_535 : decode k_L_law 535 = .ok (.lcmp, 1) := by decide +kernel
theorem d_L_law_536 : decode k_L_law 536 = .ok (.ifCond .eq 5, 3) := by decide +kernel
theorem d_L_law_539 : decode k_L_law 539 = .ok (.iconst 0, 1) := by decide +kernel
theorem d_L_law_540 : decode k_L_law 540 = .ok (.ireturn, 1) := by decide +kernel
theorem d_L_law_541 : decode k_L_law 541 = .ok (.goto 275, 3) := by decide +kernel
theorem d_L_law_544 : decode k_L_law 544 = .ok (.aload_n 1, 1) := by decide +kernel
theorem d_L_law_545 : decode k_L_law 545 = .ok (.aload_n 0, 1) := by decide +kernel
theorem d_L_law_546 : decode k_L_law 546 = .ok (.iload 4, 2) := by decide +kernel
theorem d_L_law_548 : decode k_L_law 548 = .ok (.iconst 1, 1) := by decide +kernel
theorem d_L_law_549 : decode k_L_law 549 = .ok (.iadd, 1) := by decide +kernel
theorem d_L_law_550 : decode k_L_law 550 = .ok (.iaload, 1) := by decide +kernel
theorem d_L_law_551 : decode k_L_law 551 = .ok (.aload_n 0, 1) := by decide +kernel
theorem d_L_law_552 : decode k_L_law 552 = .ok (.iload 4, 2) := by decide +kernel
theorem d_L_law_554 : decode k_L_law 554 = .ok (.iconst 2, 1) := by decide +kernel
theorem d_L_law_555 : decode k_L_law 555 = .ok (.iadd, 1) := by decide +kernel
theorem d_L_law_556 : decode k_L_law 556 = .ok (.iaload, 1) := by decide +kernel
theorem d_L_law_557 : decode k_L_law 557 = .ok (.aload_n 3, 1) := by decide +kernel
theorem d_L_law_558 : decode k_L_law 558 = .ok (.invokestatic 93, 3) := by decide +kernel
theorem d_L_law_561 : decode k_L_law 561 = .ok (.istore 5, 2) := by decide +kernel
theorem d_L_law_563 : decode k_L_law 563 = .ok (.aload_n 2, 1) := by decide +kernel
theorem d_L_law_564 : decode k_L_law 564 = .ok (.aload_n 0, 1) := by decide +kernel
theorem d_L_law_565 : decode k_L_law 565 = .ok (.iload 4, 2) := by decide +kernel
theorem d_L_law_567 : decode k_L_law 567 = .ok (.iconst 1, 1) := by decide +kernel
theorem d_L_law_568 : decode k_L_law 568 = .ok (.iadd, 1) := by decide +kernel
theorem d_L_law_569 : decode k_L_law 569 = .ok (.iaload, 1) := by decide +kernel
theorem d_L_law_570 : decode k_L_law 570 = .ok (.aload_n 0, 1) := by decide +kernel
theorem d_L_law_571 : decode k_L_law 571 = .ok (.iload 4, 2) := by decide +kernel
theorem d_L_law_573 : decode k_L_law 573 = .ok (.iconst 2, 1) := by decide +kernel
theorem d_L_law_574 : decode k_L_law 574 = .ok (.iadd, 1) := by decide +kernel
theorem d_L_law_575 : decode k_L_law 575 = .ok (.iaload, 1) := by decide +kernel
theorem d_L_law_576 : decode k_L_law 576 = .ok (.invokevirtual 95, 3) := by decide +kernel
theorem d_L_law_579 : decode k_L_law 579 = .ok (.istore 6, 2) := by decide +kernel
theorem d_L_law_581 : decode k_L_law 581 = .ok (.aload_n 2, 1) := by decide +kernel
theorem d_L_law_582 : decode k_L_law 582 = .ok (.invokevirtual 68, 3) := by decide +kernel
theorem d_L_law_585 : decode k_L_law 585 = .ok (.iload 5, 2) := by decide +kernel
theorem d_L_law_587 : decode k_L_law 587 = .ok (.if_icmp .eq 5, 3) := by decide +kernel
theorem d_L_law_590 : decode k_L_law 590 = .ok (.iconst 0, 1) := by decide +kernel
theorem d_L_law_591 : decode k_L_law 591 = .ok (.ireturn, 1) := by decide +kernel
theorem d_L_law_592 : decode k_L_law 592 = .ok (.iload 5, 2) := by decide +kernel
theorem d_L_law_594 : decode k_L_law 594 = .ok (.ifCond .ne 15, 3) := by decide +kernel
theorem d_L_law_597 : decode k_L_law 597 = .ok (.aload_n 3, 1) := by decide +kernel
theorem d_L_law_598 : decode k_L_law 598 = .ok (.iconst 0, 1) := by decide +kernel
theorem d_L_law_599 : decode k_L_law 599 = .ok (.laload, 1) := by decide +kernel
theorem d_L_law_600 : decode k_L_law 600 = .ok (.iload 6, 2) := by decide +kernel
theorem d_L_law_602 : decode k_L_law 602 = .ok (.i2l, 1) := by decide +kernel
theorem d_L_law_603 : decode k_L_law 603 = .ok (.lcmp, 1) := by decide +kernel
theorem d_L_law_604 : decode k_L_law 604 = .ok (.ifCond .eq 5, 3) := by decide +kernel
theorem d_L_law_607 : decode k_L_law 607 = .ok (.iconst 0, 1) := by decide +kernel
theorem d_L_law_608 : decode k_L_law 608 = .ok (.ireturn, 1) := by decide +kernel
theorem d_L_law_609 : decode k_L_law 609 = .ok (.goto 207, 3) := by decide +kernel
theorem d_L_law_612 : decode k_L_law 612 = .ok (.aload_n 1, 1) := by decide +kernel
theorem d_L_law_613 : decode k_L_law 613 = .ok (.aload_n 0, 1) := by decide +kernel
theorem d_L_law_614 : decode k_L_law 614 = .ok (.iload 4, 2) := by decide +kernel
theorem d_L_law_616 : decode k_L_law 616 = .ok (.iconst 1, 1) := by decide +kernel
theorem d_L_law_617 : decode k_L_law 617 = .ok (.iadd, 1) := by decide +kernel
theorem d_L_law_618 : decode k_L_law 618 = .ok (.iaload, 1) := by decide +kernel
theorem d_L_law_619 : decode k_L_law 619 = .ok (.aload_n 0, 1) := by decide +kernel
theorem d_L_law_620 : decode k_L_law 620 = .ok (.iload 4, 2) := by decide +kernel
theorem d_L_law_622 : decode k_L_law 622 = .ok (.iconst 2, 1) := by decide +kernel
theorem d_L_law_623 : decode k_L_law 623 = .ok (.iadd, 1) := by decide +kernel
theorem d_L_law_624 : decode k_L_law 624 = .ok (.iaload, 1) := by decide +kernel
theorem d_L_law_625 : decode k_L_law 625 = .ok (.aload_n 0, 1) := by decide +kernel
theorem d_L_law_626 : decode k_L_law 626 = .ok (.iload 4, 2) := by decide +kernel
theorem d_L_law_628 : decode k_L_law 628 = .ok (.iconst 3, 1) := by decide +kernel
theorem d_L_law_629 : decode k_L_law 629 = .ok (.iadd, 1) := by decide +kernel
theorem d_L_law_630 : decode k_L_law 630 = .ok (.iaload, 1) := by decide +kernel
theorem d_L_law_631 : decode k_L_law 631 = .ok (.aload_n 3, 1) := by decide +kernel
theorem d_L_law_632 : decode k_L_law 632 = .ok (.invokestatic 96, 3) := by decide +kernel
theorem d_L_law_635 : decode k_L_law 635 = .ok (.istore 5, 2) := by decide +kernel
theorem d_L_law_637 : decode k_L_law 637 = .ok (.aload_n 2, 1) := by decide +kernel
theorem d_L_law_638 : decode k_L_law 638 = .ok (.aload_n 0, 1) := by decide +kernel
theorem d_L_law_639 : decode k_L_law 639 = .ok (.iload 4, 2) := by decide +kernel
theorem d_L_law_641 : decode k_L_law 641 = .ok (.iconst 1, 1) := by decide +kernel
theorem d_L_law_642 : decode k_L_law 642 = .ok (.iadd, 1) := by decide +kernel
theorem d_L_law_643 : decode k_L_law 643 = .ok (.iaload, 1) := by decide +kernel
theorem d_L_law_644 : decode k_L_law 644 = .ok (.aload_n 0, 1) := by decide +kernel
theorem d_L_law_645 : decode k_L_law 645 = .ok (.iload 4, 2) := by decide +kernel
theorem d_L_law_647 : decode k_L_law 647 = .ok (.iconst 2, 1) := by decide +kernel
theorem d_L_law_648 : decode k_L_law 648 = .ok (.iadd, 1) := by decide +kernel
theorem d_L_law_649 : decode k_L_law 649 = .ok (.iaload, 1) := by decide +kernel
theorem d_L_law_650 : decode k_L_law 650 = .ok (.aload_n 0, 1) := by decide +kernel
theorem d_L_law_651 : decode k_L_law 651 = .ok (.iload 4, 2) := by decide +kernel
theorem d_L_law_653 : decode k_L_law 653 = .ok (.iconst 3, 1) := by decide +kernel
theorem d_L_law_654 : decode k_L_law 654 = .ok (.iadd, 1) := by decide +kernel
theorem d_L_law_655 : decode k_L_law 655 = .ok (.iaload, 1) := by decide +kernel
theorem d_L_law_656 : decode k_L_law 656 = .ok (.invokevirtual 99, 3) := by decide +kernel
theorem d_L_law_659 : decode k_L_law 659 = .ok (.istore 6, 2) := by decide +kernel
theorem d_L_law_661 : decode k_L_law 661 = .ok (.aload_n 2, 1) := by decide +kernel
theorem d_L_law_662 : decode k_L_law 662 = .ok (.invokevirtual 68, 3) := by decide +kernel
theorem d_L_law_665 : decode k_L_law 665 = .ok (.iload 5, 2) := by decide +kernel
theorem d_L_law_667 : decode k_L_law 667 = .ok (.if_icmp .eq 5, 3) := by decide +kernel
theorem d_L_law_670 : decode k_L_law 670 = .ok (.iconst 0, 1) := by decide +kernel
theorem d_L_law_671 : decode k_L_law 671 = .ok (.ireturn, 1) := by decide +kernel
theorem d_L_law_672 : decode k_L_law 672 = .ok (.iload 5, 2) := by decide +kernel
theorem d_L_law_674 : decode k_L_law 674 = .ok (.ifCond .ne 15, 3) := by decide +kernel
theorem d_L_law_677 : decode k_L_law 677 = .ok (.aload_n 3, 1) := by decide +kernel
theorem d_L_law_678 : decode k_L_law 678 = .ok (.iconst 0, 1) := by decide +kernel
theorem d_L_law_679 : decode k_L_law 679 = .ok (.laload, 1) := by decide +kernel
theorem d_L_law_680 : decode k_L_law 680 = .ok (.iload 6, 2) := by decide +kernel
theorem d_L_law_682 : decode k_L_law 682 = .ok (.i2l, 1) := by decide +kernel
theorem d_L_law_683 : decode k_L_law 683 = .ok (.lcmp, 1) := by decide +kernel
theorem d_L_law_684 : decode k_L_law 684 = .ok (.ifCond .eq 5, 3) := by decide +kernel
theorem d_L_law_687 : decode k_L_law 687 = .ok (.iconst 0, 1) := by decide +kernel
theorem d_L_law_688 : decode k_L_law 688 = .ok (.ireturn, 1) := by decide +kernel
theorem d_L_law_689 : decode k_L_law 689 = .ok (.goto 127, 3) := by decide +kernel
theorem d_L_law_692 : decode k_L_law 692 = .ok (.aload_n 1, 1) := by decide +kernel
theorem d_L_law_693 : decode k_L_law 693 = .ok (.aload_n 0, 1) := by decide +kernel
theorem d_L_law_694 : decode k_L_law 694 = .ok (.iload 4, 2) := by decide +kernel
theorem d_L_law_696 : decode k_L_law 696 = .ok (.iconst 1, 1) := by decide +kernel
theorem d_L_law_697 : decode k_L_law 697 = .ok (.iadd, 1) := by decide +kernel
theorem d_L_law_698 : decode k_L_law 698 = .ok (.iaload, 1) := by decide +kernel
theorem d_L_law_699 : decode k_L_law 699 = .ok (.aload_n 3, 1) := by decide +kernel
theorem d_L_law_700 : decode k_L_law 700 = .ok (.invokestatic 100, 3) := by decide +kernel
theorem d_L_law_703 : decode k_L_law 703 = .ok (.istore 5, 2) := by decide +kernel
theorem d_L_law_705 : decode k_L_law 705 = .ok (.aload_n 2, 1) := by decide +kernel
theorem d_L_law_706 : decode k_L_law 706 = .ok (.aload_n 0, 1) := by decide +kernel
theorem d_L_law_707 : decode k_L_law 707 = .ok (.iload 4, 2) := by decide +kernel
theorem d_L_law_709 : decode k_L_law 709 = .ok (.iconst 1, 1) := by decide +kernel
theorem d_L_law_710 : decode k_L_law 710 = .ok (.iadd, 1) := by decide +kernel
theorem d_L_law_711 : decode k_L_law 711 = .ok (.iaload, 1) := by decide +kernel
theorem d_L_law_712 : decode k_L_law 712 = .ok (.invokevirtual 102, 3) := by decide +kernel
theorem d_L_law_715 : decode k_L_law 715 = .ok (.istore 6, 2) := by decide +kernel
theorem d_L_law_717 : decode k_L_law 717 = .ok (.aload_n 2, 1) := by decide +kernel
theorem d_L_law_718 : decode k_L_law 718 = .ok (.invokevirtual 68, 3) := by decide +kernel
theorem d_L_law_721 : decode k_L_law 721 = .ok (.iload 5, 2) := by decide +kernel
theorem d_L_law_723 : decode k_L_law 723 = .ok (.if_icmp .eq 5, 3) := by decide +kernel
theorem d_L_law_726 : decode k_L_law 726 = .ok (.iconst 0, 1) := by decide +kernel
theorem d_L_law_727 : decode k_L_law 727 = .ok (.ireturn, 1) := by decide +kernel
theorem d_L_law_728 : decode k_L_law 728 = .ok (.iload 5, 2) := by decide +kernel
theorem d_L_law_730 : decode k_L_law 730 = .ok (.ifCond .ne 15, 3) := by decide +kernel
theorem d_L_law_733 : decode k_L_law 733 = .ok (.aload_n 3, 1) := by decide +kernel
theorem d_L_law_734 : decode k_L_law 734 = .ok (.iconst 0, 1) := by decide +kernel
theorem d_L_law_735 : decode k_L_law 735 = .ok (.laload, 1) := by decide +kernel
theorem d_L_law_736 : decode k_L_law 736 = .ok (.iload 6, 2) := by decide +kernel
theorem d_L_law_738 : decode k_L_law 738 = .ok (.i2l, 1) := by decide +kernel
theorem d_L_law_739 : decode k_L_law 739 = .ok (.lcmp, 1) := by decide +kernel
theorem d_L_law_740 : decode k_L_law 740 = .ok (.ifCond .eq 5, 3) := by decide +kernel
theorem d_L_law_743 : decode k_L_law 743 = .ok (.iconst 0, 1) := by decide +kernel
theorem d_L_law_744 : decode k_L_law 744 = .ok (.ireturn, 1) := by decide +kernel
theorem d_L_law_745 : decode k_L_law 745 = .ok (.goto 71, 3) := by decide +kernel
theorem d_L_law_748 : decode k_L_law 748 = .ok (.aload_n 1, 1) := by decide +kernel
theorem d_L_law_749 : decode k_L_law 749 = .ok (.aload_n 0, 1) := by decide +kernel
theorem d_L_law_750 : decode k_L_law 750 = .ok (.iload 4, 2) := by decide +kernel
theorem d_L_law_752 : decode k_L_law 752 = .ok (.iconst 1, 1) := by decide +kernel
theorem d_L_law_753 : decode k_L_law 753 = .ok (.iadd, 1) := by decide +kernel
theorem d_L_law_754 : decode k_L_law 754 = .ok (.iaload, 1) := by decide +kernel
theorem d_L_law_755 : decode k_L_law 755 = .ok (.aload_n 0, 1) := by decide +kernel
theorem d_L_law_756 : decode k_L_law 756 = .ok (.iload 4, 2) := by decide +kernel
theorem d_L_law_758 : decode k_L_law 758 = .ok (.iconst 2, 1) := by decide +kernel
theorem d_L_law_759 : decode k_L_law 759 = .ok (.iadd, 1) := by decide +kernel
theorem d_L_law_760 : decode k_L_law 760 = .ok (.iaload, 1) := by decide +kernel
theorem d_L_law_761 : decode k_L_law 761 = .ok (.aload_n 3, 1) := by decide +kernel
theorem d_L_law_762 : decode k_L_law 762 = .ok (.invokestatic 103, 3) := by decide +kernel
theorem d_L_law_765 : decode k_L_law 765 = .ok (.istore 5, 2) := by decide +kernel
theorem d_L_law_767 : decode k_L_law 767 = .ok (.aload_n 2, 1) := by decide +kernel
theorem d_L_law_768 : decode k_L_law 768 = .ok (.aload_n 0, 1) := by decide +kernel
theorem d_L_law_769 : decode k_L_law 769 = .ok (.iload 4, 2) := by decide +kernel
theorem d_L_law_771 : decode k_L_law 771 = .ok (.iconst 1, 1) := by decide +kernel
theorem d_L_law_772 : decode k_L_law 772 = .ok (.iadd, 1) := by decide +kernel
theorem d_L_law_773 : decode k_L_law 773 = .ok (.iaload, 1) := by decide +kernel
theorem d_L_law_774 : decode k_L_law 774 = .ok (.aload_n 0, 1) := by decide +kernel
theorem d_L_law_775 : decode k_L_law 775 = .ok (.iload 4, 2) := by decide +kernel
theorem d_L_law_777 : decode k_L_law 777 = .ok (.iconst 2, 1) := by decide +kernel
theorem d_L_law_778 : decode k_L_law 778 = .ok (.iadd, 1) := by decide +kernel
theorem d_L_law_779 : decode k_L_law 779 = .ok (.iaload, 1) := by decide +kernel
theorem d_L_law_780 : decode k_L_law 780 = .ok (.invokevirtual 105, 3) := by decide +kernel
theorem d_L_law_783 : decode k_L_law 783 = .ok (.istore 6, 2) := by decide +kernel
theorem d_L_law_785 : decode k_L_law 785 = .ok (.aload_n 2, 1) := by decide +kernel
theorem d_L_law_786 : decode k_L_law 786 = .ok (.invokevirtual 68, 3) := by decide +kernel
theorem d_L_law_789 : decode k_L_law 789 = .ok (.iload 5, 2) := by decide +kernel
theorem d_L_law_791 : decode k_L_law 791 = .ok (.if_icmp .eq 5, 3) := by decide +kernel
theorem d_L_law_794 : decode k_L_law 794 = .ok (.iconst 0, 1) := by decide +kernel
theorem d_L_law_795 : decode k_L_law 795 = .ok (.ireturn, 1) := by decide +kernel
theorem d_L_law_796 : decode k_L_law 796 = .ok (.iload 5, 2) := by decide +kernel
theorem d_L_law_798 : decode k_L_law 798 = .ok (.ifCond .ne 15, 3) := by decide +kernel
theorem d_L_law_801 : decode k_L_law 801 = .ok (.aload_n 3, 1) := by decide +kernel
theorem d_L_law_802 : decode k_L_law 802 = .ok (.iconst 0, 1) := by decide +kernel
theorem d_L_law_803 : decode k_L_law 803 = .ok (.laload, 1) := by decide +kernel
theorem d_L_law_804 : decode k_L_law 804 = .ok (.iload 6, 2) := by decide +kernel
theorem d_L_law_806 : decode k_L_law 806 = .ok (.i2l, 1) := by decide +kernel
theorem d_L_law_807 : decode k_L_law 807 = .ok (.lcmp, 1) := by decide +kernel
theorem d_L_law_808 : decode k_L_law 808 = .ok (.ifCond .eq 5, 3) := by decide +kernel
theorem d_L_law_811 : decode k_L_law 811 = .ok (.iconst 0, 1) := by decide +kernel
theorem d_L_law_812 : decode k_L_law 812 = .ok (.ireturn, 1) := by decide +kernel
theorem d_L_law_813 : decode k_L_law 813 = .ok (.goto 3, 3) := by decide +kernel
theorem d_L_law_816 : decode k_L_law 816 = .ok (.iinc 4 6, 3) := by decide +kernel
theorem d_L_law_819 : decode k_L_law 819 = .ok (.goto (-766), 3) := by decide +kernel
theorem d_L_law_822 : decode k_L_law 822 = .ok (.iconst 1, 1) := by decide +kernel
theorem d_L_law_823 : decode k_L_law 823 = .ok (.ireturn, 1) := by decide +kernel
end
section
def TB : u_T := fun k => match k with
  | 0 => ("WordShapes$Brackets", "kinds", "[I", true)
  | 1 => ("WordShapes$Brackets", "numbers", "[I", true)
  | _ => ("WordShapes$Brackets", "top", "I", false)
def ft_B : Nat → FieldType := fun k => match k with
  | 0 => .array .int
  | 1 => .array .int
  | _ => .int
theorem nm_B : ∀ a, a < 3 → ∀ b, b < 3 → a ≠ b → (TB a).2.1 ≠ (TB b).2.1 := by decide +kernel
theorem fo_B : ∀ k, k < 3 → parseFieldDescriptor (TB k).2.2.1 = some (ft_B k) := by decide +kernel
theorem iw_B : ∀ w ∈ u_ws "WordShapes$Brackets" TB 3, w ∈ GT := List.forall_mem_cons.mpr ⟨tk_78, List.forall_mem_cons.mpr ⟨tk_80, List.forall_mem_cons.mpr ⟨tk_82, fun _ h => absurd h List.not_mem_nil⟩⟩⟩
def TR : u_T := fun k => match k with
  | 0 => ("WordShapes$Reader", "text", "[B", true)
  | 1 => ("WordShapes$Reader", "digits", "I", true)
  | 2 => ("WordShapes$Reader", "draft", "LWordShapes$Shape;", true)
  | 3 => ("WordShapes$Reader", "open", "LWordShapes$Brackets;", true)
  | 4 => ("WordShapes$Reader", "length", "I", false)
  | 5 => ("WordShapes$Reader", "place", "I", false)
  | 6 => ("WordShapes$Reader", "faultKind", "I", false)
  | _ => ("WordShapes$Reader", "faultPlace", "I", false)
def ft_R : Nat → FieldType := fun k => match k with
  | 0 => .array .byte
  | 1 => .int
  | 2 => .object "WordShapes$Shape"
  | 3 => .object "WordShapes$Brackets"
  | 4 => .int
  | 5 => .int
  | 6 => .int
  | _ => .int
theorem nm_R : ∀ a, a < 8 → ∀ b, b < 8 → a ≠ b → (TR a).2.1 ≠ (TR b).2.1 := by decide +kernel
theorem fo_R : ∀ k, k < 8 → parseFieldDescriptor (TR k).2.2.1 = some (ft_R k) := by decide +kernel
theorem iw_R : ∀ w ∈ u_ws "WordShapes$Reader" TR 8, w ∈ GT := List.forall_mem_cons.mpr ⟨tk_97, List.forall_mem_cons.mpr ⟨tk_99, List.forall_mem_cons.mpr ⟨tk_101, List.forall_mem_cons.mpr ⟨tk_103, List.forall_mem_cons.mpr ⟨tk_105, List.forall_mem_cons.mpr ⟨tk_107, List.forall_mem_cons.mpr ⟨tk_109, List.forall_mem_cons.mpr ⟨tk_111, fun _ h => absurd h List.not_mem_nil⟩⟩⟩⟩⟩⟩⟩⟩
def TS : u_T := fun k => match k with
  | 0 => ("WordShapes$Shape", "plan", "[I", true)
  | 1 => ("WordShapes$Shape", "ordinates", "[I", true)
  | 2 => ("WordShapes$Shape", "numbers", "I", false)
  | _ => ("WordShapes$Shape", "points", "I", false)
def ft_S : Nat → FieldType := fun k => match k with
  | 0 => .array .int
  | 1 => .array .int
  | 2 => .int
  | _ => .int
theorem nm_S : ∀ a, a < 4 → ∀ b, b < 4 → a ≠ b → (TS a).2.1 ≠ (TS b).2.1 := by decide +kernel
theorem fo_S : ∀ k, k < 4 → parseFieldDescriptor (TS k).2.2.1 = some (ft_S k) := by decide +kernel
theorem iw_S : ∀ w ∈ u_ws "WordShapes$Shape" TS 4, w ∈ GT := List.forall_mem_cons.mpr ⟨tk_50, List.forall_mem_cons.mpr ⟨tk_52, List.forall_mem_cons.mpr ⟨tk_54, List.forall_mem_cons.mpr ⟨tk_56, fun _ h => absurd h List.not_mem_nil⟩⟩⟩⟩
def TT : u_T := fun k => match k with
  | 0 => ("WordShapes$Writer", "bytes", "[B", true)
  | 1 => ("WordShapes$Writer", "digits", "I", true)
  | 2 => ("WordShapes$Writer", "decimals", "[I", true)
  | 3 => ("WordShapes$Writer", "open", "LWordShapes$Brackets;", true)
  | 4 => ("WordShapes$Writer", "length", "I", false)
  | 5 => ("WordShapes$Writer", "keeps", "Z", false)
  | 6 => ("WordShapes$Writer", "laid", "I", false)
  | 7 => ("WordShapes$Writer", "nextNumber", "I", false)
  | 8 => ("WordShapes$Writer", "nextPoint", "I", false)
  | _ => ("WordShapes$Writer", "isFirst", "Z", false)
def ft_T : Nat → FieldType := fun k => match k with
  | 0 => .array .byte
  | 1 => .int
  | 2 => .array .int
  | 3 => .object "WordShapes$Brackets"
  | 4 => .int
  | 5 => .boolean
  | 6 => .int
  | 7 => .int
  | 8 => .int
  | _ => .boolean
theorem nm_T : ∀ a, a < 10 → ∀ b, b < 10 → a ≠ b → (TT a).2.1 ≠ (TT b).2.1 := by decide +kernel
theorem fo_T : ∀ k, k < 10 → parseFieldDescriptor (TT k).2.2.1 = some (ft_T k) := by decide +kernel
theorem iw_T : ∀ w ∈ u_ws "WordShapes$Writer" TT 10, w ∈ GT := List.forall_mem_cons.mpr ⟨tk_134, List.forall_mem_cons.mpr ⟨tk_136, List.forall_mem_cons.mpr ⟨tk_138, List.forall_mem_cons.mpr ⟨tk_140, List.forall_mem_cons.mpr ⟨tk_142, List.forall_mem_cons.mpr ⟨tk_144, List.forall_mem_cons.mpr ⟨tk_146, List.forall_mem_cons.mpr ⟨tk_148, List.forall_mem_cons.mpr ⟨tk_150, List.forall_mem_cons.mpr ⟨tk_152, fun _ h => absurd h List.not_mem_nil⟩⟩⟩⟩⟩⟩⟩⟩⟩⟩
def TW : u_T := fun k => match k with
  | 0 => ("WordShapes", "slots", "[LWordShapes$Shape;", true)
  | 1 => ("WordShapes", "tape", "[B", true)
  | 2 => ("WordShapes", "reader", "LWordShapes$Reader;", true)
  | 3 => ("WordShapes", "writer", "LWordShapes$Writer;", true)
  | _ => ("WordShapes", "tapeLength", "I", false)
def ft_W : Nat → FieldType := fun k => match k with
  | 0 => .array (.object "WordShapes$Shape")
  | 1 => .array .byte
  | 2 => .object "WordShapes$Reader"
  | 3 => .object "WordShapes$Writer"
  | _ => .int
theorem nm_W : ∀ a, a < 5 → ∀ b, b < 5 → a ≠ b → (TW a).2.1 ≠ (TW b).2.1 := by decide +kernel
theorem fo_W : ∀ k, k < 5 → parseFieldDescriptor (TW k).2.2.1 = some (ft_W k) := by decide +kernel
theorem iw_W : ∀ w ∈ u_ws "WordShapes" TW 5, w ∈ GT := List.forall_mem_cons.mpr ⟨tk_160, List.forall_mem_cons.mpr ⟨tk_162, List.forall_mem_cons.mpr ⟨tk_164, List.forall_mem_cons.mpr ⟨tk_166, List.forall_mem_cons.mpr ⟨tk_168, fun _ h => absurd h List.not_mem_nil⟩⟩⟩⟩⟩
def TM : u_T := fun k => match k with
  | 0 => ("WordShapesModel", "letters", "[I", true)
  | 1 => ("WordShapesModel", "begins", "[I", true)
  | 2 => ("WordShapesModel", "thrown", "I", false)
  | 3 => ("WordShapesModel", "digits", "I", true)
  | 4 => ("WordShapesModel", "mostPoints", "I", true)
  | 5 => ("WordShapesModel", "mostPlan", "I", true)
  | 6 => ("WordShapesModel", "fed", "I", false)
  | 7 => ("WordShapesModel", "tape", "[I", true)
  | 8 => ("WordShapesModel", "plan", "[I", true)
  | 9 => ("WordShapesModel", "planned", "[I", true)
  | 10 => ("WordShapesModel", "xy", "[I", true)
  | 11 => ("WordShapesModel", "points", "[I", true)
  | 12 => ("WordShapesModel", "size", "I", false)
  | 13 => ("WordShapesModel", "result", "[I", true)
  | 14 => ("WordShapesModel", "out", "[I", true)
  | 15 => ("WordShapesModel", "written", "I", false)
  | 16 => ("WordShapesModel", "slot", "I", false)
  | 17 => ("WordShapesModel", "at", "I", false)
  | 18 => ("WordShapesModel", "fault", "I", false)
  | 19 => ("WordShapesModel", "place", "I", false)
  | 20 => ("WordShapesModel", "value", "I", false)
  | 21 => ("WordShapesModel", "openAt", "[I", true)
  | 22 => ("WordShapesModel", "openCount", "[I", true)
  | _ => ("WordShapesModel", "openKind", "[I", true)
def ft_M : Nat → FieldType := fun k => match k with
  | 0 => .array .int
  | 1 => .array .int
  | 2 => .int
  | 3 => .int
  | 4 => .int
  | 5 => .int
  | 6 => .int
  | 7 => .array .int
  | 8 => .array .int
  | 9 => .array .int
  | 10 => .array .int
  | 11 => .array .int
  | 12 => .int
  | 13 => .array .int
  | 14 => .array .int
  | 15 => .int
  | 16 => .int
  | 17 => .int
  | 18 => .int
  | 19 => .int
  | 20 => .int
  | 21 => .array .int
  | 22 => .array .int
  | _ => .array .int
theorem nm_M : ∀ a, a < 24 → ∀ b, b < 24 → a ≠ b → (TM a).2.1 ≠ (TM b).2.1 := by decide +kernel
theorem fo_M : ∀ k, k < 24 → parseFieldDescriptor (TM k).2.2.1 = some (ft_M k) := by decide +kernel
theorem iw_M : ∀ w ∈ u_ws "WordShapesModel" TM 24, w ∈ GT := List.forall_mem_cons.mpr ⟨tk_707, List.forall_mem_cons.mpr ⟨tk_709, List.forall_mem_cons.mpr ⟨tk_711, List.forall_mem_cons.mpr ⟨tk_713, List.forall_mem_cons.mpr ⟨tk_715, List.forall_mem_cons.mpr ⟨tk_717, List.forall_mem_cons.mpr ⟨tk_719, List.forall_mem_cons.mpr ⟨tk_721, List.forall_mem_cons.mpr ⟨tk_723, List.forall_mem_cons.mpr ⟨tk_725, List.forall_mem_cons.mpr ⟨tk_727, List.forall_mem_cons.mpr ⟨tk_729, List.forall_mem_cons.mpr ⟨tk_731, List.forall_mem_cons.mpr ⟨tk_733, List.forall_mem_cons.mpr ⟨tk_735, List.forall_mem_cons.mpr ⟨tk_737, List.forall_mem_cons.mpr ⟨tk_739, List.forall_mem_cons.mpr ⟨tk_741, List.forall_mem_cons.mpr ⟨tk_743, List.forall_mem_cons.mpr ⟨tk_745, List.forall_mem_cons.mpr ⟨tk_747, List.forall_mem_cons.mpr ⟨tk_749, List.forall_mem_cons.mpr ⟨tk_751, List.forall_mem_cons.mpr ⟨tk_753, fun _ h => absurd h List.not_mem_nil⟩⟩⟩⟩⟩⟩⟩⟩⟩⟩⟩⟩⟩⟩⟩⟩⟩⟩⟩⟩⟩⟩⟩⟩
abbrev vwC : List vw_C := [("WordShapes$Brackets", TB, 3), ("WordShapes$Reader", TR, 8), ("WordShapes$Shape", TS, 4), ("WordShapes$Writer", TT, 10), ("WordShapes", TW, 5), ("WordShapesModel", TM, 24)]
/-- the constants of a run: the classes' numbers and slots, the array classes (int, byte, Shape, long), the strings' addresses and their values' -/
abbrev gl : Type := (Nat → ClassId) × (Nat → Nat → Nat) × (Nat → ClassId) × (Nat → Nat) × (Nat → Nat)
abbrev gD (G : gl) : va_G := (G.1, G.2.1)
abbrev gc (G : gl) (k : Nat) : ClassId := G.2.2.1 k
abbrev gs (G : gl) (k : Nat) : Nat := G.2.2.2.1 k
abbrev gv (G : gl) (k : Nat) : Nat := G.2.2.2.2 k
abbrev gT (G : gl) : List (ClassId × FieldType) := [(gc G 0, .int), (gc G 1, .byte), (gc G 2, .object "WordShapes$Shape"), (gc G 3, .long)]
/-- links of nest mates -/
def NWs (U : State) : Prop := va_Nw (Jvm.Cond.fieldLinkNest "WordShapes$Writer" 51 "WordShapes$Shape" "numbers" "I" "WordShapes") U ∧ va_Nw (Jvm.Cond.fieldLinkNest "WordShapes$Reader" 97 "WordShapes$Shape" "numbers" "I" "WordShapes") U ∧ va_Nw (Jvm.Cond.fieldLinkNest "WordShapes" 137 "WordShapes$Shape" "numbers" "I" "WordShapes") U ∧ va_Nw (Jvm.Cond.fieldLinkNest "WordShapes$Writer" 56 "WordShapes$Shape" "points" "I" "WordShapes") U ∧ va_Nw (Jvm.Cond.fieldLinkNest "WordShapes" 142 "WordShapes$Shape" "points" "I" "WordShapes") U ∧ va_Nw (Jvm.Cond.methodLinkNest "WordShapes$Reader" 11 ({ cls := "WordShapes$Brackets", name := "<init>", desc := "()V" } : Jvm.MethodName) "WordShapes") U ∧ va_Nw (Jvm.Cond.fieldLinkNest "WordShapes$Writer" 59 "WordShapes$Brackets" "top" "I" "WordShapes") U ∧ va_Nw (Jvm.Cond.fieldLinkNest "WordShapes$Reader" 106 "WordShapes$Brackets" "top" "I" "WordShapes") U ∧ va_Nw (Jvm.Cond.fieldLinkNest "WordShapes" 82 "WordShapes$Reader" "draft" "LWordShapes$Shape;" "WordShapes") U ∧ va_Nw (Jvm.Cond.fieldLinkNest "WordShapes" 94 "WordShapes$Reader" "faultKind" "I" "WordShapes") U ∧ va_Nw (Jvm.Cond.fieldLinkNest "WordShapes" 97 "WordShapes$Reader" "faultPlace" "I" "WordShapes") U ∧ va_Nw (Jvm.Cond.methodLinkNest "WordShapes$Writer" 22 ({ cls := "WordShapes$Brackets", name := "<init>", desc := "()V" } : Jvm.MethodName) "WordShapes") U ∧ va_Nw (Jvm.Cond.fieldLinkNest "WordShapes" 124 "WordShapes$Writer" "bytes" "[B" "WordShapes") U ∧ va_Nw (Jvm.Cond.fieldLinkNest "WordShapes" 121 "WordShapes$Writer" "length" "I" "WordShapes") U ∧ va_Nw (Jvm.Cond.castable "java/lang/IllegalStateException" "java/lang/IllegalStateException") U ∧ va_Nw (Jvm.Cond.declares ({ cls := "java/lang/RuntimeException", name := "<init>", desc := "(Ljava/lang/String;)V" } : Jvm.MethodName)) U ∧ va_Nw (Jvm.Cond.declares ({ cls := "java/lang/Exception", name := "<init>", desc := "(Ljava/lang/String;)V" } : Jvm.MethodName)) U ∧ va_Nw (Jvm.Cond.declares ({ cls := "java/lang/Throwable", name := "<init>", desc := "(Ljava/lang/String;)V" } : Jvm.MethodName)) U ∧ va_Nw (Jvm.Cond.castable "java/lang/IllegalArgumentException" "java/lang/IllegalArgumentException") U ∧ va_Nw (Jvm.Cond.castable "java/lang/IndexOutOfBoundsException" "java/lang/IndexOutOfBoundsException") U ∧ va_Nw (Jvm.Cond.methodLinkNest "WordShapes$Reader" 173 ({ cls := "WordShapes", name := "wordOf", desc := "(I)Ljava/lang/String;" } : Jvm.MethodName) "WordShapes") U ∧ va_Nw (Jvm.Cond.methodLinkNest "WordShapes$Writer" 86 ({ cls := "WordShapes", name := "wordOf", desc := "(I)Ljava/lang/String;" } : Jvm.MethodName) "WordShapes") U ∧ va_Nw (Jvm.Cond.castable "java/lang/UnsupportedOperationException" "java/lang/UnsupportedOperationException") U
theorem NWs.warm {s U : State} (hW : s.WarmedH U.vm) (h : NWs s) : NWs U := ⟨va_Nw.warmF hW h.1, va_Nw.warmF hW h.2.1, va_Nw.warmF hW h.2.2.1, va_Nw.warmF hW h.2.2.2.1, va_Nw.warmF hW h.2.2.2.2.1, va_Nw.warmM hW h.2.2.2.2.2.1, va_Nw.warmF hW h.2.2.2.2.2.2.1, va_Nw.warmF hW h.2.2.2.2.2.2.2.1, va_Nw.warmF hW h.2.2.2.2.2.2.2.2.1, va_Nw.warmF hW h.2.2.2.2.2.2.2.2.2.1, va_Nw.warmF hW h.2.2.2.2.2.2.2.2.2.2.1, va_Nw.warmM hW h.2.2.2.2.2.2.2.2.2.2.2.1, va_Nw.warmF hW h.2.2.2.2.2.2.2.2.2.2.2.2.1, va_Nw.warmF hW h.2.2.2.2.2.2.2.2.2.2.2.2.2.1, va_Nw.warmC hW h.2.2.2.2.2.2.2.2.2.2.2.2.2.2.1, va_Nw.warmD hW h.2.2.2.2.2.2.2.2.2.2.2.2.2.2.2.1, va_Nw.warmD hW h.2.2.2.2.2.2.2.2.2.2.2.2.2.2.2.2.1, va_Nw.warmD hW h.2.2.2.2.2.2.2.2.2.2.2.2.2.2.2.2.2.1, va_Nw.warmC hW h.2.2.2.2.2.2.2.2.2.2.2.2.2.2.2.2.2.2.1, va_Nw.warmC hW h.2.2.2.2.2.2.2.2.2.2.2.2.2.2.2.2.2.2.2.1, va_Nw.warmM hW h.2.2.2.2.2.2.2.2.2.2.2.2.2.2.2.2.2.2.2.2.1, va_Nw.warmM hW h.2.2.2.2.2.2.2.2.2.2.2.2.2.2.2.2.2.2.2.2.2.1, va_Nw.warmC hW h.2.2.2.2.2.2.2.2.2.2.2.2.2.2.2.2.2.2.2.2.2.2⟩
theorem nw_44 {U : State} (h : NWs U) : va_Nw (Jvm.Cond.fieldLinkNest "WordShapes$Writer" 51 "WordShapes$Shape" "numbers" "I" "WordShapes") U := h.1
theorem nw_45 {U : State} (h : NWs U) : va_Nw (Jvm.Cond.fieldLinkNest "WordShapes$Reader" 97 "WordShapes$Shape" "numbers" "I" "WordShapes") U := h.2.1
theorem nw_46 {U : State} (h : NWs U) : va_Nw (Jvm.Cond.fieldLinkNest "WordShapes" 137 "WordShapes$Shape" "numbers" "I" "WordShapes") U := h.2.2.1
theorem nw_48 {U : State} (h : NWs U) : va_Nw (Jvm.Cond.fieldLinkNest "WordShapes$Writer" 56 "WordShapes$Shape" "points" "I" "WordShapes") U := h.2.2.2.1
theorem nw_49 {U : State} (h : NWs U) : va_Nw (Jvm.Cond.fieldLinkNest "WordShapes" 142 "WordShapes$Shape" "points" "I" "WordShapes") U := h.2.2.2.2.1
theorem nw_69 {U : State} (h : NWs U) : va_Nw (Jvm.Cond.methodLinkNest "WordShapes$Reader" 11 ({ cls := "WordShapes$Brackets", name := "<init>", desc := "()V" } : Jvm.MethodName) "WordShapes") U := h.2.2.2.2.2.1
theorem nw_76 {U : State} (h : NWs U) : va_Nw (Jvm.Cond.fieldLinkNest "WordShapes$Writer" 59 "WordShapes$Brackets" "top" "I" "WordShapes") U := h.2.2.2.2.2.2.1
theorem nw_77 {U : State} (h : NWs U) : va_Nw (Jvm.Cond.fieldLinkNest "WordShapes$Reader" 106 "WordShapes$Brackets" "top" "I" "WordShapes") U := h.2.2.2.2.2.2.2.1
theorem nw_89 {U : State} (h : NWs U) : va_Nw (Jvm.Cond.fieldLinkNest "WordShapes" 82 "WordShapes$Reader" "draft" "LWordShapes$Shape;" "WordShapes") U := h.2.2.2.2.2.2.2.2.1
theorem nw_94 {U : State} (h : NWs U) : va_Nw (Jvm.Cond.fieldLinkNest "WordShapes" 94 "WordShapes$Reader" "faultKind" "I" "WordShapes") U := h.2.2.2.2.2.2.2.2.2.1
theorem nw_96 {U : State} (h : NWs U) : va_Nw (Jvm.Cond.fieldLinkNest "WordShapes" 97 "WordShapes$Reader" "faultPlace" "I" "WordShapes") U := h.2.2.2.2.2.2.2.2.2.2.1
theorem nw_122 {U : State} (h : NWs U) : va_Nw (Jvm.Cond.methodLinkNest "WordShapes$Writer" 22 ({ cls := "WordShapes$Brackets", name := "<init>", desc := "()V" } : Jvm.MethodName) "WordShapes") U := h.2.2.2.2.2.2.2.2.2.2.2.1
theorem nw_124 {U : State} (h : NWs U) : va_Nw (Jvm.Cond.fieldLinkNest "WordShapes" 124 "WordShapes$Writer" "bytes" "[B" "WordShapes") U := h.2.2.2.2.2.2.2.2.2.2.2.2.1
theorem nw_128 {U : State} (h : NWs U) : va_Nw (Jvm.Cond.fieldLinkNest "WordShapes" 121 "WordShapes$Writer" "length" "I" "WordShapes") U := h.2.2.2.2.2.2.2.2.2.2.2.2.2.1
theorem nw_192 {U : State} (h : NWs U) : va_Nw (Jvm.Cond.castable "java/lang/IllegalStateException" "java/lang/IllegalStateException") U := h.2.2.2.2.2.2.2.2.2.2.2.2.2.2.1
theorem nw_194 {U : State} (h : NWs U) : va_Nw (Jvm.Cond.declares ({ cls := "java/lang/RuntimeException", name := "<init>", desc := "(Ljava/lang/String;)V" } : Jvm.MethodName)) U := h.2.2.2.2.2.2.2.2.2.2.2.2.2.2.2.1
theorem nw_196 {U : State} (h : NWs U) : va_Nw (Jvm.Cond.declares ({ cls := "java/lang/Exception", name := "<init>", desc := "(Ljava/lang/String;)V" } : Jvm.MethodName)) U := h.2.2.2.2.2.2.2.2.2.2.2.2.2.2.2.2.1
theorem nw_198 {U : State} (h : NWs U) : va_Nw (Jvm.Cond.declares ({ cls := "java/lang/Throwable", name := "<init>", desc := "(Ljava/lang/String;)V" } : Jvm.MethodName)) U := h.2.2.2.2.2.2.2.2.2.2.2.2.2.2.2.2.2.1
theorem nw_272 {U : State} (h : NWs U) : va_Nw (Jvm.Cond.castable "java/lang/IllegalArgumentException" "java/lang/IllegalArgumentException") U := h.2.2.2.2.2.2.2.2.2.2.2.2.2.2.2.2.2.2.1
theorem nw_301 {U : State} (h : NWs U) : va_Nw (Jvm.Cond.castable "java/lang/IndexOutOfBoundsException" "java/lang/IndexOutOfBoundsException") U := h.2.2.2.2.2.2.2.2.2.2.2.2.2.2.2.2.2.2.2.1
theorem nw_385 {U : State} (h : NWs U) : va_Nw (Jvm.Cond.methodLinkNest "WordShapes$Reader" 173 ({ cls := "WordShapes", name := "wordOf", desc := "(I)Ljava/lang/String;" } : Jvm.MethodName) "WordShapes") U := h.2.2.2.2.2.2.2.2.2.2.2.2.2.2.2.2.2.2.2.2.1
theorem nw_582 {U : State} (h : NWs U) : va_Nw (Jvm.Cond.methodLinkNest "WordShapes$Writer" 86 ({ cls := "WordShapes", name := "wordOf", desc := "(I)Ljava/lang/String;" } : Jvm.MethodName) "WordShapes") U := h.2.2.2.2.2.2.2.2.2.2.2.2.2.2.2.2.2.2.2.2.2.1
theorem nw_615 {U : State} (h : NWs U) : va_Nw (Jvm.Cond.castable "java/lang/UnsupportedOperationException" "java/lang/UnsupportedOperationException") U := h.2.2.2.2.2.2.2.2.2.2.2.2.2.2.2.2.2.2.2.2.2.2
theorem NWs.same {s U : State} (e : s.vm = U.vm) (h : NWs s) : NWs U := ⟨va_Nw.same rfl e h.1, va_Nw.same rfl e h.2.1, va_Nw.same rfl e h.2.2.1, va_Nw.same rfl e h.2.2.2.1, va_Nw.same rfl e h.2.2.2.2.1, va_Nw.same rfl e h.2.2.2.2.2.1, va_Nw.same rfl e h.2.2.2.2.2.2.1, va_Nw.same rfl e h.2.2.2.2.2.2.2.1, va_Nw.same rfl e h.2.2.2.2.2.2.2.2.1, va_Nw.same rfl e h.2.2.2.2.2.2.2.2.2.1, va_Nw.same rfl e h.2.2.2.2.2.2.2.2.2.2.1, va_Nw.same rfl e h.2.2.2.2.2.2.2.2.2.2.2.1, va_Nw.same rfl e h.2.2.2.2.2.2.2.2.2.2.2.2.1, va_Nw.same rfl e h.2.2.2.2.2.2.2.2.2.2.2.2.2.1, va_Nw.same rfl e h.2.2.2.2.2.2.2.2.2.2.2.2.2.2.1, va_Nw.same rfl e h.2.2.2.2.2.2.2.2.2.2.2.2.2.2.2.1, va_Nw.same rfl e h.2.2.2.2.2.2.2.2.2.2.2.2.2.2.2.2.1, va_Nw.same rfl e h.2.2.2.2.2.2.2.2.2.2.2.2.2.2.2.2.2.1, va_Nw.same rfl e h.2.2.2.2.2.2.2.2.2.2.2.2.2.2.2.2.2.2.1, va_Nw.same rfl e h.2.2.2.2.2.2.2.2.2.2.2.2.2.2.2.2.2.2.2.1, va_Nw.same rfl e h.2.2.2.2.2.2.2.2.2.2.2.2.2.2.2.2.2.2.2.2.1, va_Nw.same rfl e h.2.2.2.2.2.2.2.2.2.2.2.2.2.2.2.2.2.2.2.2.2.1, va_Nw.same rfl e h.2.2.2.2.2.2.2.2.2.2.2.2.2.2.2.2.2.2.2.2.2.2⟩
/-- the string constants, by their places -/
def SRs (G : gl) (U : State) : Prop := vk_R "WordShapes" 57 "the tape is full" (gs G 0) U ∧ vk_R "WordShapes" 67 "n is not 0 .. 20" (gs G 1) U ∧ vk_R "WordShapes" 70 "the tape has less than twenty bytes" (gs G 2) U ∧ vk_R "WordShapes" 156 "no such slot" (gs G 3) U ∧ vk_R "WordShapes$Reader" 196 "something is wrong in the text" (gs G 4) U ∧ vk_R "WordShapes" 158 "POINT" (gs G 5) U ∧ vk_R "WordShapes" 160 "LINESTRING" (gs G 6) U ∧ vk_R "WordShapes" 162 "POLYGON" (gs G 7) U ∧ vk_R "WordShapes" 164 "MULTIPOINT" (gs G 8) U ∧ vk_R "WordShapes" 166 "MULTILINESTRING" (gs G 9) U ∧ vk_R "WordShapes" 168 "MULTIPOLYGON" (gs G 10) U ∧ vk_R "WordShapes" 170 "GEOMETRYCOLLECTION" (gs G 11) U ∧ vk_R "WordShapes$Reader" 181 "EMPTY" (gs G 12) U ∧ vk_R "WordShapes" 102 "a fault has 0 and 1" (gs G 13) U ∧ vk_R "WordShapes" 109 "the slot has no shape" (gs G 14) U ∧ vk_R "WordShapes$Writer" 105 "EMPTY" (gs G 15) U ∧ vk_R "WordShapes" 118 "the result would be too long" (gs G 16) U ∧ vk_R "WordShapes" 140 "no such number of the plan" (gs G 17) U ∧ vk_R "WordShapes" 145 "no such point" (gs G 18) U ∧ vk_R "WordShapes" 147 "a point has 0 and 1" (gs G 19) U ∧ vk_R "WordShapes" 152 "no such byte of the result" (gs G 20) U ∧ vk_R "WordShapes" 154 "what is counted is 0 .. 3" (gs G 21) U
theorem SRs.warm {G : gl} {s U : State} (hW : s.WarmedH U.vm) (h : SRs G s) : SRs G U := ⟨vk_R.warm hW h.1, vk_R.warm hW h.2.1, vk_R.warm hW h.2.2.1, vk_R.warm hW h.2.2.2.1, vk_R.warm hW h.2.2.2.2.1, vk_R.warm hW h.2.2.2.2.2.1, vk_R.warm hW h.2.2.2.2.2.2.1, vk_R.warm hW h.2.2.2.2.2.2.2.1, vk_R.warm hW h.2.2.2.2.2.2.2.2.1, vk_R.warm hW h.2.2.2.2.2.2.2.2.2.1, vk_R.warm hW h.2.2.2.2.2.2.2.2.2.2.1, vk_R.warm hW h.2.2.2.2.2.2.2.2.2.2.2.1, vk_R.warm hW h.2.2.2.2.2.2.2.2.2.2.2.2.1, vk_R.warm hW h.2.2.2.2.2.2.2.2.2.2.2.2.2.1, vk_R.warm hW h.2.2.2.2.2.2.2.2.2.2.2.2.2.2.1, vk_R.warm hW h.2.2.2.2.2.2.2.2.2.2.2.2.2.2.2.1, vk_R.warm hW h.2.2.2.2.2.2.2.2.2.2.2.2.2.2.2.2.1, vk_R.warm hW h.2.2.2.2.2.2.2.2.2.2.2.2.2.2.2.2.2.1, vk_R.warm hW h.2.2.2.2.2.2.2.2.2.2.2.2.2.2.2.2.2.2.1, vk_R.warm hW h.2.2.2.2.2.2.2.2.2.2.2.2.2.2.2.2.2.2.2.1, vk_R.warm hW h.2.2.2.2.2.2.2.2.2.2.2.2.2.2.2.2.2.2.2.2.1, vk_R.warm hW h.2.2.2.2.2.2.2.2.2.2.2.2.2.2.2.2.2.2.2.2.2⟩
theorem sr_232 {G : gl} {U : State} (h : SRs G U) : vk_R "WordShapes" 57 "the tape is full" (gs G 0) U := h.1
theorem sr_279 {G : gl} {U : State} (h : SRs G U) : vk_R "WordShapes" 67 "n is not 0 .. 20" (gs G 1) U := h.2.1
theorem sr_286 {G : gl} {U : State} (h : SRs G U) : vk_R "WordShapes" 70 "the tape has less than twenty bytes" (gs G 2) U := h.2.2.1
theorem sr_308 {G : gl} {U : State} (h : SRs G U) : vk_R "WordShapes" 156 "no such slot" (gs G 3) U := h.2.2.2.1
theorem sr_375 {G : gl} {U : State} (h : SRs G U) : vk_R "WordShapes$Reader" 196 "something is wrong in the text" (gs G 4) U := h.2.2.2.2.1
theorem sr_388 {G : gl} {U : State} (h : SRs G U) : vk_R "WordShapes" 158 "POINT" (gs G 5) U := h.2.2.2.2.2.1
theorem sr_389 {G : gl} {U : State} (h : SRs G U) : vk_R "WordShapes" 160 "LINESTRING" (gs G 6) U := h.2.2.2.2.2.2.1
theorem sr_390 {G : gl} {U : State} (h : SRs G U) : vk_R "WordShapes" 162 "POLYGON" (gs G 7) U := h.2.2.2.2.2.2.2.1
theorem sr_391 {G : gl} {U : State} (h : SRs G U) : vk_R "WordShapes" 164 "MULTIPOINT" (gs G 8) U := h.2.2.2.2.2.2.2.2.1
theorem sr_392 {G : gl} {U : State} (h : SRs G U) : vk_R "WordShapes" 166 "MULTILINESTRING" (gs G 9) U := h.2.2.2.2.2.2.2.2.2.1
theorem sr_393 {G : gl} {U : State} (h : SRs G U) : vk_R "WordShapes" 168 "MULTIPOLYGON" (gs G 10) U := h.2.2.2.2.2.2.2.2.2.2.1
theorem sr_394 {G : gl} {U : State} (h : SRs G U) : vk_R "WordShapes" 170 "GEOMETRYCOLLECTION" (gs G 11) U := h.2.2.2.2.2.2.2.2.2.2.2.1
theorem sr_467 {G : gl} {U : State} (h : SRs G U) : vk_R "WordShapes$Reader" 181 "EMPTY" (gs G 12) U := h.2.2.2.2.2.2.2.2.2.2.2.2.1
theorem sr_548 {G : gl} {U : State} (h : SRs G U) : vk_R "WordShapes" 102 "a fault has 0 and 1" (gs G 13) U := h.2.2.2.2.2.2.2.2.2.2.2.2.2.1
theorem sr_561 {G : gl} {U : State} (h : SRs G U) : vk_R "WordShapes" 109 "the slot has no shape" (gs G 14) U := h.2.2.2.2.2.2.2.2.2.2.2.2.2.2.1
theorem sr_597 {G : gl} {U : State} (h : SRs G U) : vk_R "WordShapes$Writer" 105 "EMPTY" (gs G 15) U := h.2.2.2.2.2.2.2.2.2.2.2.2.2.2.2.1
theorem sr_622 {G : gl} {U : State} (h : SRs G U) : vk_R "WordShapes" 118 "the result would be too long" (gs G 16) U := h.2.2.2.2.2.2.2.2.2.2.2.2.2.2.2.2.1
theorem sr_647 {G : gl} {U : State} (h : SRs G U) : vk_R "WordShapes" 140 "no such number of the plan" (gs G 17) U := h.2.2.2.2.2.2.2.2.2.2.2.2.2.2.2.2.2.1
theorem sr_655 {G : gl} {U : State} (h : SRs G U) : vk_R "WordShapes" 145 "no such point" (gs G 18) U := h.2.2.2.2.2.2.2.2.2.2.2.2.2.2.2.2.2.2.1
theorem sr_656 {G : gl} {U : State} (h : SRs G U) : vk_R "WordShapes" 147 "a point has 0 and 1" (gs G 19) U := h.2.2.2.2.2.2.2.2.2.2.2.2.2.2.2.2.2.2.2.1
theorem sr_665 {G : gl} {U : State} (h : SRs G U) : vk_R "WordShapes" 152 "no such byte of the result" (gs G 20) U := h.2.2.2.2.2.2.2.2.2.2.2.2.2.2.2.2.2.2.2.2.1
theorem sr_673 {G : gl} {U : State} (h : SRs G U) : vk_R "WordShapes" 154 "what is counted is 0 .. 3" (gs G 21) U := h.2.2.2.2.2.2.2.2.2.2.2.2.2.2.2.2.2.2.2.2.2
theorem SRs.same {G : gl} {s U : State} (e : U.vm = s.vm) (h : SRs G s) : SRs G U := ⟨vk_R.same e h.1, vk_R.same e h.2.1, vk_R.same e h.2.2.1, vk_R.same e h.2.2.2.1, vk_R.same e h.2.2.2.2.1, vk_R.same e h.2.2.2.2.2.1, vk_R.same e h.2.2.2.2.2.2.1, vk_R.same e h.2.2.2.2.2.2.2.1, vk_R.same e h.2.2.2.2.2.2.2.2.1, vk_R.same e h.2.2.2.2.2.2.2.2.2.1, vk_R.same e h.2.2.2.2.2.2.2.2.2.2.1, vk_R.same e h.2.2.2.2.2.2.2.2.2.2.2.1, vk_R.same e h.2.2.2.2.2.2.2.2.2.2.2.2.1, vk_R.same e h.2.2.2.2.2.2.2.2.2.2.2.2.2.1, vk_R.same e h.2.2.2.2.2.2.2.2.2.2.2.2.2.2.1, vk_R.same e h.2.2.2.2.2.2.2.2.2.2.2.2.2.2.2.1, vk_R.same e h.2.2.2.2.2.2.2.2.2.2.2.2.2.2.2.2.1, vk_R.same e h.2.2.2.2.2.2.2.2.2.2.2.2.2.2.2.2.2.1, vk_R.same e h.2.2.2.2.2.2.2.2.2.2.2.2.2.2.2.2.2.2.1, vk_R.same e h.2.2.2.2.2.2.2.2.2.2.2.2.2.2.2.2.2.2.2.1, vk_R.same e h.2.2.2.2.2.2.2.2.2.2.2.2.2.2.2.2.2.2.2.2.1, vk_R.same e h.2.2.2.2.2.2.2.2.2.2.2.2.2.2.2.2.2.2.2.2.2⟩
/-- a string of one-byte characters -/
def ST1 (a v : Nat) (byt : List Int32) (A : Nat → Prop) (U : State) (H : Heap) : Prop := va_O "java/lang/String" a A U H ∧ va_OF "java/lang/String" "coder" "B" (.int 0) a A U H ∧ va_OF "java/lang/String" "value" "[B" (.ref v) a A U H ∧ va_T .byte v byt.length (fun j => .int (byt.getD j 0)) A U H
theorem ST1.moved {a v : Nat} {byt : List Int32} {A : Nat → Prop} {u U : State} {H : Heap} (hvm : u.vm.Alike U.vm) (h : ST1 a v byt A u H) : ST1 a v byt A U H := ⟨va_O.moved hvm h.1, va_OF.moved hvm h.2.1, va_OF.moved hvm h.2.2.1, va_T.moved hvm h.2.2.2⟩
theorem ST1.kept {a v : Nat} {byt : List Int32} {A : Nat → Prop} {U : State} {H H1 : Heap} (h : ST1 a v byt A U H) (hq : ∀ a : Nat, a < H.size → ¬ A a → H1[a]? = H[a]?) : ST1 a v byt A U H1 := ⟨h.1.kept hq, h.2.1.kept hq, h.2.2.1.kept hq, h.2.2.2.kept hq⟩
theorem ST1.narrow {a v : Nat} {byt : List Int32} {A B : Nat → Prop} {U : State} {H : Heap} (h : ST1 a v byt A U H) (hAB : ∀ q, B q → A q) : ST1 a v byt B U H := ⟨h.1.narrow hAB, h.2.1.narrow hAB, h.2.2.1.narrow hAB, h.2.2.2.narrow hAB⟩
/-- the letters of the words, by their number 1 .. 8 (8: EMPTY) -/
def wdL : Nat → List Nat := fun k => match k with
  | 1 => [80, 79, 73, 78, 84]
  | 2 => [76, 73, 78, 69, 83, 84, 82, 73, 78, 71]
  | 3 => [80, 79, 76, 89, 71, 79, 78]
  | 4 => [77, 85, 76, 84, 73, 80, 79, 73, 78, 84]
  | 5 => [77, 85, 76, 84, 73, 76, 73, 78, 69, 83, 84, 82, 73, 78, 71]
  | 6 => [77, 85, 76, 84, 73, 80, 79, 76, 89, 71, 79, 78]
  | 7 => [71, 69, 79, 77, 69, 84, 82, 89, 67, 79, 76, 76, 69, 67, 84, 73, 79, 78]
  | 8 => [69, 77, 80, 84, 89]
  | _ => []
def wdI (k : Nat) : List Int32 := (wdL k).map nI
/-- where the strings of the words stand: 5: ('WordShapes', '158', 'POINT'), 6: ('WordShapes', '160', 'LINESTRING'), 7: ('WordShapes', '162', 'POLYGON'), 8: ('WordShapes', '164', 'MULTIPOINT'), 9: ('WordShapes', '166', 'MULTILINESTRING'), 10: ('WordShapes', '168', 'MULTIPOLYGON'), 11: ('WordShapes', '170', 'GEOMETRYCOLLECTION'), 12: ('WordShapes$Reader', '181', 'EMPTY'), 15: ('WordShapes$Writer', '105', 'EMPTY') -/
def STs (G : gl) (A : Nat → Prop) (U : State) (H : Heap) : Prop := ST1 (gs G 5) (gv G 5) (wdI 1) A U H ∧ ST1 (gs G 6) (gv G 6) (wdI 2) A U H ∧ ST1 (gs G 7) (gv G 7) (wdI 3) A U H ∧ ST1 (gs G 8) (gv G 8) (wdI 4) A U H ∧ ST1 (gs G 9) (gv G 9) (wdI 5) A U H ∧ ST1 (gs G 10) (gv G 10) (wdI 6) A U H ∧ ST1 (gs G 11) (gv G 11) (wdI 7) A U H ∧ ST1 (gs G 12) (gv G 12) (wdI 8) A U H ∧ ST1 (gs G 15) (gv G 15) (wdI 8) A U H
theorem STs.moved {G : gl} {A : Nat → Prop} {u U : State} {H : Heap} (hvm : u.vm.Alike U.vm) (h : STs G A u H) : STs G A U H := ⟨ST1.moved hvm h.1, ST1.moved hvm h.2.1, ST1.moved hvm h.2.2.1, ST1.moved hvm h.2.2.2.1, ST1.moved hvm h.2.2.2.2.1, ST1.moved hvm h.2.2.2.2.2.1, ST1.moved hvm h.2.2.2.2.2.2.1, ST1.moved hvm h.2.2.2.2.2.2.2.1, ST1.moved hvm h.2.2.2.2.2.2.2.2⟩
theorem STs.kept {G : gl} {A : Nat → Prop} {U : State} {H H1 : Heap} (h : STs G A U H) (hq : ∀ a : Nat, a < H.size → ¬ A a → H1[a]? = H[a]?) : STs G A U H1 := ⟨ST1.kept h.1 hq, ST1.kept h.2.1 hq, ST1.kept h.2.2.1 hq, ST1.kept h.2.2.2.1 hq, ST1.kept h.2.2.2.2.1 hq, ST1.kept h.2.2.2.2.2.1 hq, ST1.kept h.2.2.2.2.2.2.1 hq, ST1.kept h.2.2.2.2.2.2.2.1 hq, ST1.kept h.2.2.2.2.2.2.2.2 hq⟩
theorem STs.narrow {G : gl} {A : Nat → Prop} {B : Nat → Prop} {U : State} {H : Heap} (h : STs G A U H) (hAB : ∀ q, B q → A q) : STs G B U H := ⟨ST1.narrow h.1 hAB, ST1.narrow h.2.1 hAB, ST1.narrow h.2.2.1 hAB, ST1.narrow h.2.2.2.1 hAB, ST1.narrow h.2.2.2.2.1 hAB, ST1.narrow h.2.2.2.2.2.1 hAB, ST1.narrow h.2.2.2.2.2.2.1 hAB, ST1.narrow h.2.2.2.2.2.2.2.1 hAB, ST1.narrow h.2.2.2.2.2.2.2.2 hAB⟩
/-- what every method may lean on: nest links, strings, the statics of Throwable and String -/
def EV (G : gl) (A : Nat → Prop) (U : State) (H : Heap) : Prop := NWs U ∧ SRs G U ∧ STs G A U H ∧ vx_Zq Bundle.tN "UNASSIGNED_STACK" Bundle.steD A U H ∧ vx_Zq Bundle.tN "SUPPRESSED_SENTINEL" Bundle.listD A U H ∧ va_Z "java/lang/String" "COMPACT_STRINGS" "Z" (.int 1) A U H
theorem EV.into {G : gl} {A B : Nat → Prop} {s U : State} {H : Heap} (h : EV G A s s.heap) (hq : ∀ a : Nat, a < s.heap.size → ¬ A a → H[a]? = s.heap[a]?) (hW : s.WarmedH U.vm) (hU : U.heap = H) (hAB : ∀ q, B q → A q) : EV G B U U.heap := by
  subst hU
  obtain ⟨h1, h2, h3, h4, h5, h6⟩ := h
  exact ⟨h1.warm hW, h2.warm hW, ((h3.kept hq).narrow hAB).moved hW.alike, ((h4.kept hq).narrow hAB).moved hW.alike, ((h5.kept hq).narrow hAB).moved hW.alike, ((h6.kept hq).narrow hAB).moved hW.alike⟩
theorem EV.same {G : gl} {A : Nat → Prop} {s U : State} {H : Heap} (h : EV G A s H) (e : s.vm = U.vm) : EV G A U H := by
  obtain ⟨h1, h2, h3, h4, h5, h6⟩ := h
  have ha : s.vm.Alike U.vm := by rw [e]; exact Vm.Alike.refl _
  exact ⟨h1.same e, h2.same e.symm, h3.moved ha, h4.moved ha, h5.moved ha, h6.moved ha⟩
/-- a method's start: its world, and what it may lean on -/
def PW (G : gl) (ws : va_W) (sz : Nat) (U : State) : Prop := U.heap.size = sz ∧ EV G (va_A ws sz) U U.heap ∧ va_P (gD G) vwC ws U.heap ∧ va_K (gD G) vwC (gT G) U ∧ va_D (fun _ => True) ws
theorem pw_blind {G : gl} {av : List Value} {ws : va_W} {sz : Nat} : FrameBlind (va_Pc av (PW G ws sz)) := by
  intro a U g mk q
  obtain ⟨q0, q1, q2, q3, q4, q5⟩ := q
  exact ⟨q0, q1, q2.same (U := U.calling g mk a) rfl, q3, va_K.moved (u := U) (U := U.calling g mk a) (Vm.Alike.refl U.vm) q4, q5⟩
/-- a method's end, with a value and a world -/
def yB (G : gl) (A : Nat → Prop) (n : Nat) (w : va_W) (st t : State) : Prop := w.length = n ∧ va_P (gD G) vwC w t.heap ∧ va_K (gD G) vwC (gT G) t ∧ va_D A w ∧ va_F A st t
def yE (G : gl) (A : Nat → Prop) (n : Nat) (post : Option Value → va_W → Prop) (st : State) (v : Option Value) (t : State) : Prop := ∃ w, post v w ∧ yB G A n w st t
def yX (G : gl) (A : Nat → Prop) (n : Nat) (px : String → va_W → Prop) : String → State → State → Prop := fun E st t => ∃ w, px E w ∧ yB G A n w st t
def yQ (G : gl) (A : Nat → Prop) (n : Nat) (post : Option Value → va_W → Prop) (px : String → va_W → Prop) : Array Value → State → Outcome → State → Prop := fun _ st o t =>
  (∃ v, o = .returned v ∧ yE G A n post st v t ∧ ∃ L, FrameEnd st o t L 0 0 ∧ ∀ q ∈ L, A q.base) ∨ ∃ q, o = .threw q ∧ vx_T (yX G A n px) st q t 1 6 A
def yMQ (below : List Frame) (G : gl) (A : Nat → Prop) (n : Nat) (post : Option Value → va_W → Prop) (px : String → va_W → Prop) (a : Array Value) (s : State) : State → Prop := fun t => ∃ o, t.status = .running ∧ Ended t below o ∧ yQ G A n post px a s o t
abbrev yR (fr lo : Nat) : Room := { frames := fr, cells := 1, slots := 6, locals := lo }
/-- THE CONTRACT of a method: from the world ws, with the arguments av, it returns v with a world w ('post v w') and no new cell, or throws an E with a world w ('px E w') -/
def YC (l : Launch) (G : gl) (y : MethodName) (cc : ByteArray) (maxL : Nat) (ret : Option FieldType) (fr lo : Nat) (av : List Value) (ws : va_W) (post : Option Value → va_W → Prop) (px : String → va_W → Prop) : Prop :=
  ∀ sz : Nat, MetFree l y (headSpec (Cond.code y cc maxL ret :: GT) (yR fr lo)) (va_Pc av (PW G ws sz)) (fun _ _ _ _ _ => True) (yQ G (va_A ws sz) ws.length post px)
/-- what a body has at hand -/
def Cx (l : Launch) (G : gl) (A : Nat → Prop) (y : MethodName) (cc : ByteArray) (maxL : Nat) (ret : Option FieldType) (av : List Value) (p : Program) (s : State) (m : MethodId) (meth : Method) (c : Code) : Prop :=
  p.tables.exec = Jvm.exec ∧ c.code = cc ∧ meth.sig.returnType = ret ∧ c.maxLocals = maxL ∧ s.vm.findClass y.cls = some m.cls ∧ (∀ w ∈ GT, w.before av.toArray s = true) ∧ meth.locks = false ∧ (∀ x ∈ c.exceptionTable.toList, False) ∧ EV G A s s.heap ∧ va_K (gD G) vwC (gT G) s ∧ (∀ q : Nat, s.heap.size ≤ q → A q) ∧ meth.name = y.name
theorem yc_of {l : Launch} {G : gl} {y : MethodName} {cc : ByteArray} {maxL : Nat} {ret : Option FieldType} {fr lo : Nat} {av : List Value} {ws : va_W} {post : Option Value → va_W → Prop} {px : String → va_W → Prop} (hy : plainName y.cls = true)
    (body : ∀ (p : Program) (e : Env) (s : State) (m : MethodId) (below : List Frame) (meth : Method) (c : Code) (A : Nat → Prop), Cx l G A y cc maxL ret av p s m meth c → va_P (gD G) vwC ws s.heap → va_D A ws →
      W p l e (yR fr lo) s m av.toArray below meth c s.heap [] 0 0 (yMQ below G A ws.length post px av.toArray s) (entryFrame m av.toArray maxL)) : YC l G y cc maxL ret fr lo av ws post px := by
  intro sz
  refine MetFree.of_bodyS (code := cc) (maxLocals := maxL) (ret := ret) hy ?_ ?_
  · intro args s m h hn
    obtain ⟨meth, c, h1, h2, h3, h4, h5, h6, -, -⟩ := Cond.code_spec hn (atoms_spec (ws := Cond.code y cc maxL ret :: GT) h _ List.mem_cons_self)
    exact ⟨meth, c, h1, h2, h3, h4, h5, h6⟩
  · intro p e s m args below meth c s₁ B hml hP _
    obtain ⟨rfl, hsz, hE, hP, hK, hD⟩ := hP
    subst hsz
    have hh0 : s₁.heap = s.heap := by rw [B.state]; rfl
    have ht : ∀ x ∈ c.exceptionTable.toList, False := by
      obtain ⟨meth9, c9, h1, h2, -, -, -, -, h7, -⟩ := Cond.code_spec B.named (atoms_spec (ws := Cond.code y cc maxL ret :: GT) B.pre _ List.mem_cons_self)
      cases Option.some.inj (h1.symm.trans B.method)
      cases Option.some.inj (h2.symm.trans (Stand.of_body B).code)
      intro x hx
      have h0 : c.exceptionTable.size = 0 := by simpa [Array.isEmpty] using h7
      have h1 : c.exceptionTable.toList = [] := List.eq_nil_of_length_eq_zero (by simpa using h0)
      rw [h1] at hx
      cases hx
    have hts := atoms_spec (ws := Cond.code y cc maxL ret :: GT) B.pre
    obtain ⟨t, a1, o, b1, b2, b3⟩ := body p e s m below meth c (va_A ws s.heap.size) ⟨B.exec, B.bytes, B.returns, hml, findClass_of_methodNamed B.named, fun w hw => hts w (List.mem_cons_of_mem _ hw), B.notSynchronized, ht, hE, hK, fun q h => Or.inr h, (name_of_methodNamed B.named B.method).1⟩ hP hD.self s₁ hh0 (Stand.of_body B)
    exact ⟨t, o, a1, b1, b2, b3⟩
section YCall
variable {l : Launch} {R : Room} {p : Program} {e : Env} {below : List Frame} {s : State} {sargs : Array Value} {y : MethodName} {len W9 : Nat}
def yPost (G : gl) (A1 : Nat → Prop) (n : Nat) (post : Option Value → va_W → Prop) : Pt → Array Value → Option Value → Pt → Prop := fun A a v B =>
  ∃ (g : JFrame) (mk : MethodId) (t : State) (L : List Loc), B.U.heap = t.heap ∧ B.U.vm = t.vm ∧ yE G A1 n post (A.U.calling g mk a) v t ∧ B.locs = A.locs ++ L ∧ (∀ q ∈ L, A1 q.base) ∧ B.cells = A.cells ∧ B.slots = A.slots
theorem y_back {G : gl} {cc : ByteArray} {maxL : Nat} {ret : Option FieldType} {fr lo : Nat} {av : List Value} {ws : va_W} {post : Option Value → va_W → Prop} {px : String → va_W → Prop}
    (hM : YC l G y cc maxL ret fr lo av ws post px) (sz : Nat) (hframes : fr + 1 ≤ R.frames) (hlocals : W9 + (maxL + 11) + lo ≤ R.locals)
    (hws : ∀ w ∈ Cond.code y cc maxL ret :: GT, ∀ (a' : Array Value) (U : State), s.WarmedH U.vm → w.before a' U = true) (hinit : ∀ (a' : Array Value) (U : State), s.WarmedH U.vm → (Cond.initialized y.cls).before a' U = true) :
    vx_Back l R p e below s sargs y len W9 (PreOf R 1 6 (va_Pc av (PW G ws sz))) (yPost G (va_A ws sz) ws.length post) (vx_Post (yX G (va_A ws sz) ws.length px) 1 6 (va_A ws sz)) := by
  intro m meth c A g ig mk a X hg hsize hdg hW hn hp
  have h1 : (headSpec (Cond.code y cc maxL ret :: GT) (yR fr lo)).pre.before a A.U = true := atoms_intro fun w hw => hws w hw _ _ X.warmed
  have h2 : (Cond.code y cc maxL ret).before a A.U = true := hws _ List.mem_cons_self _ _ X.warmed
  have h3 : (Cond.initialized y.cls).before a A.U = true := hinit _ _ X.warmed
  have h4 : A.cells + (headSpec (Cond.code y cc maxL ret :: GT) (yR fr lo)).room.cells ≤ R.cells := hp.1
  have h5 : A.slots + (headSpec (Cond.code y cc maxL ret :: GT) (yR fr lo)).room.slots ≤ R.slots := hp.2.1
  have hPc : va_Pc av (PW G ws sz) a (A.U.calling g mk a) := pw_blind _ _ _ _ hp.2.2
  obtain ⟨U, Ls, c0, s0⟩ := A
  dsimp only [Pt.U, Pt.locs, Pt.cells, Pt.slots] at h1 h2 h3 h4 h5 X hn hPc ⊢
  obtain ⟨methY, cY, hmY, hcY, -, hlY, -, -, -, -⟩ := Cond.code_spec hn h2
  obtain ⟨kY, hkY, -⟩ := className_of_methodNamed hn
  have hinitY : kY.init = .initialized := Cond.initialized_spec (findClass_of_methodNamed hn) hkY h3
  have h : At U g.method c below := by rw [hg]; exact X.here
  have hlocals9 : W9 + (maxL + 11) + (headSpec (Cond.code y cc maxL ret :: GT) (yR fr lo)).room.locals ≤ R.locals := hlocals
  have happ : (headSpec (Cond.code y cc maxL ret :: GT) (yR fr lo)).appliesLoose y e.platform (U.calling g mk a) = true :=
    Spec.appliesLoose_calling (g := g) h hdg hn hkY hinitY
      (X.room_calling (g := g) (R' := (headSpec (Cond.code y cc maxL ret :: GT) (yR fr lo)).room) hsize hmY hcY hframes (by rw [hlY]; omega) h4 h5) h1
  obtain ⟨mid, hmid⟩ := h.above
  have hfr : (U.setTop g).frames = (.java g :: mid) ++ below := by rw [State.frames_setTop' g h.top, hmid]; rfl
  obtain ⟨o, s₂, hsteps, -, hend, hq⟩ := Steps.callFree (hM sz) p X.admits X.cas X.clock (acts := []) hfr happ hPc trivial
  have hq' : yQ G (va_A ws sz) ws.length post px a (U.calling g mk a) o s₂ := hq
  rw [State.frames_setTop' g h.top] at hend
  obtain ⟨g₀, hg0⟩ := Option.isSome_iff_exists.mp h.top
  obtain ⟨r, hr⟩ := State.topJava?_eq_some.mp hg0
  have hr' : (({ U with heap := s₂.heap, slotsUsed := s₂.slotsUsed } : State).setVm s₂.vm).frames = .java g₀ :: r := hr
  rcases hq' with ⟨v, rfl, hqc, L, hfe, hL⟩ | ⟨q, rfl, E, ce, L, hx, hce, hcv, hcl, hW₂, hsm, hL⟩
  · obtain ⟨-, hW₂, e2, q2, q3, q4, q5, q6⟩ := id hfe
    have e3 : s₂ = ({ (U.calling g mk a).setFrames s₂.frames with heap := s₂.heap, slotsUsed := s₂.slotsUsed } : State).setVm s₂.vm := by
      have : s₂ = ({ s₂ with vm := (U.calling g mk a).vm } : State).setVm s₂.vm := rfl
      rw [e2] at this
      exact this
    obtain ⟨c₂, i₂, len₂, hc₂, hd₂, hf₂⟩ := hend
    have hW' : U.WarmedH s₂.vm := hW₂
    have hcc : c₂ = c := by
      have h1 : s₂.code? g.method = U.code? g.method := by
        rw [State.code?_eq, State.code?_eq, hW'.alike.method?]
      exact Option.some.inj (hc₂.symm.trans (h1.trans h.code))
    subst hcc
    have hlen : len₂ = len := by rw [hdg] at hd₂; cases hd₂; rfl
    subst hlen
    have hs₂ : s₂ = (({ U with heap := s₂.heap, slotsUsed := s₂.slotsUsed } : State).setVm s₂.vm).setTop { g with pc := g.pc + len₂, stack := v.toList ++ g.stack } := by
      refine e3.trans ?_
      rw [hf₂, State.calling_eq h.top, State.setFrames_setFrames, State.setTop_of_frames _ hr', hr]
      rfl
    have hsame : U.sameButNew ({ U with heap := s₂.heap, slotsUsed := s₂.slotsUsed } : State) L 0 0 := by
      refine ⟨?_, q2, q3, q4, q5, q6⟩
      obtain ⟨t, ht, -⟩ := State.frames_cons hr
      show ({ U with heap := s₂.heap, slotsUsed := s₂.slotsUsed } : State) = { U.setFrames U.frames with heap := s₂.heap, slotsUsed := s₂.slotsUsed }
      rw [State.setFrames_self ht]
    subst hg
    refine Or.inl ⟨v, ⟨(({ U with heap := s₂.heap, slotsUsed := s₂.slotsUsed } : State).setVm s₂.vm), Ls ++ L, c0, s0⟩,
      ⟨X.admits, X.cas, X.clock, X.frames, X.room, X.hears, X.method, X.code, (X.here.setHeapUsed s₂.heap s₂.slotsUsed).setVm hW'.alike, X.tail, State.WarmedH.trans X.warmed hW', X.limits, X.bytes, X.same.trans (hsame.setVm s.vm)⟩,
      ⟨g, mk, s₂, L, rfl, rfl, hqc, rfl, hL, rfl, rfl⟩, ?_⟩
    show Steps p.tables e below _ ((({ U with heap := s₂.heap, slotsUsed := s₂.slotsUsed } : State).setVm s₂.vm).setTop { g with pc := g.pc + len₂, stack := v.toList ++ g.stack })
    rw [← hs₂]
    exact hsteps
  · obtain ⟨e2, q2, q3, q4, q5, q6⟩ := id hsm
    have e3 : s₂ = ({ (U.calling g mk a).setFrames s₂.frames with heap := s₂.heap, slotsUsed := s₂.slotsUsed } : State).setVm s₂.vm := by
      have : s₂ = ({ s₂ with vm := (U.calling g mk a).vm } : State).setVm s₂.vm := rfl
      rw [e2] at this
      exact this
    have hf₂ : s₂.frames = .throwing q :: .java g :: U.frames.tail := hend
    have hW' : U.WarmedH s₂.vm := hW₂
    have hs₂ : s₂ = ((({ U with heap := s₂.heap, slotsUsed := s₂.slotsUsed } : State).setVm s₂.vm).setTop g).pushFrame (.throwing q) := by
      refine e3.trans ?_
      rw [hf₂, State.calling_eq h.top, State.setFrames_setFrames, State.pushFrame, State.frames_setTop _ hr', State.setTop_of_frames _ hr', State.setFrames_setFrames, hr]
      rfl
    have hsame : U.sameButNew ({ U with heap := s₂.heap, slotsUsed := s₂.slotsUsed } : State) L 1 6 := by
      refine ⟨?_, q2, q3, q4, q5, q6⟩
      obtain ⟨t, ht, -⟩ := State.frames_cons hr
      show ({ U with heap := s₂.heap, slotsUsed := s₂.slotsUsed } : State) = { U.setFrames U.frames with heap := s₂.heap, slotsUsed := s₂.slotsUsed }
      rw [State.setFrames_self ht]
    subst hg
    refine Or.inr ⟨q, ⟨(({ U with heap := s₂.heap, slotsUsed := s₂.slotsUsed } : State).setVm s₂.vm), Ls ++ L, c0 + 1, s0 + 6⟩,
      ⟨X.admits, X.cas, X.clock, X.frames, X.room, X.hears, X.method, X.code, (X.here.setHeapUsed s₂.heap s₂.slotsUsed).setVm hW'.alike, X.tail, State.WarmedH.trans X.warmed hW', X.limits, X.bytes, X.same.trans (hsame.setVm s.vm)⟩,
      ⟨g, mk, s₂, L, E, ce, rfl, rfl, hx, hce, hcv, hcl, rfl, hL, rfl, rfl⟩, ?_⟩
    show Steps p.tables e below _ (((({ U with heap := s₂.heap, slotsUsed := s₂.slotsUsed } : State).setVm s₂.vm).setTop g).pushFrame (.throwing q))
    rw [← hs₂]
    exact hsteps
end YCall
/-- ws with the cells at the places is put in anew -/
def va_rep (ws : va_W) : List Nat → va_W → va_W
  | i :: is, c :: w => (va_rep ws is w).set i c
  | _, _ => ws
theorem va_rep_len (ws : va_W) : ∀ (is : List Nat) (w : va_W), (va_rep ws is w).length = ws.length
  | [], w => by simp [va_rep]
  | i :: is, [] => by simp [va_rep]
  | i :: is, c :: w => by simp [va_rep, va_rep_len ws is w]
theorem va_rep_get (ws : va_W) : ∀ (is : List Nat) (w : va_W), w.length = is.length → ∀ (k : Nat) (q : Nat × va_E), (va_rep ws is w)[k]? = some q → (∃ j : Nat, is[j]? = some k ∧ w[j]? = some q) ∨ (k ∉ is ∧ ws[k]? = some q)
  | [], w, _, k, q, h => by
    cases w with
    | nil => exact Or.inr ⟨List.not_mem_nil, h⟩
    | cons c w => exact Or.inr ⟨List.not_mem_nil, h⟩
  | i :: is, [], hl, k, q, h => by simp at hl
  | i :: is, c :: w, hl, k, q, h => by
    have hl' : w.length = is.length := by simpa using hl
    have h' : ((va_rep ws is w).set i c)[k]? = some q := h
    by_cases hk : i = k
    · subst hk
      rw [List.getElem?_set] at h'
      simp only [if_true] at h'
      by_cases hlt : i < (va_rep ws is w).length
      · rw [if_pos hlt] at h'
        cases h'
        exact Or.inl ⟨0, rfl, rfl⟩
      · rw [if_neg hlt] at h'
        cases h'
    · rw [List.getElem?_set_ne hk] at h'
      rcases va_rep_get ws is w hl' k q h' with ⟨j, h1, h2⟩ | ⟨h1, h2⟩
      · exact Or.inl ⟨j + 1, by simpa using h1, by simpa using h2⟩
      · exact Or.inr ⟨fun hm => (List.mem_cons.mp hm).elim (fun e => hk e.symm) h1, h2⟩
theorem va_repP {A0 : Nat → Prop} {D : va_G} {cl : List vw_C} {ws wc w1 : va_W} {H H1 : Heap} (hP : va_P D cl ws H) (hD : va_D A0 ws) (isC : List Nat) (hC : isC.map (fun i => ws[i]?) = wc.map some) (hl : w1.length = wc.length)
    (hk : ∀ q : Nat, q < H.size → ¬ va_A wc H.size q → H1[q]? = H[q]?) (hF : ∀ q, va_A wc H.size q → A0 q) (hP1 : va_P D cl w1 H1) (hD1 : va_D (va_A wc H.size) w1) : va_P D cl (va_rep ws isC w1) H1 ∧ va_D A0 (va_rep ws isC w1) := by
  have hl2 : w1.length = isC.length := by
    have := congrArg List.length hC
    simp only [List.length_map] at this
    omega
  have atC : ∀ (k : Nat) (q : Nat × va_E), wc[k]? = some q → ∃ i, isC[k]? = some i ∧ ws[i]? = some q := by
    intro k q hq
    have h1 : (isC.map (fun i => ws[i]?))[k]? = some (some q) := by rw [hC, List.getElem?_map, hq]; rfl
    rw [List.getElem?_map] at h1
    cases hi : isC[k]? with
    | none => rw [hi] at h1; cases h1
    | some i => rw [hi] at h1; exact ⟨i, rfl, Option.some.inj h1⟩
  have apart : ∀ (k : Nat) (q : Nat × va_E), k ∉ isC → ws[k]? = some q → q.1 < H.size ∧ ¬ va_A wc H.size q.1 := by
    intro k q hk1 hq
    have hlt := (hP k q hq).lt
    refine ⟨hlt, fun h => ?_⟩
    rcases h with ⟨k2, e, h⟩ | h
    · obtain ⟨j, h3, h4⟩ := atC k2 (q.1, e) h
      have hij := hD.1 k j q (q.1, e) hq h4 rfl
      subst hij
      exact hk1 (List.mem_of_getElem? h3)
    · omega
  refine ⟨fun k q hq => ?_, fun i j x z hx hz hxz => ?_, fun k q hq => ?_⟩
  · rcases va_rep_get ws isC w1 hl2 k q hq with ⟨j, h1, h2⟩ | ⟨h1, h2⟩
    · exact hP1 j q h2
    · obtain ⟨g1, g2⟩ := apart k q h1 h2
      exact (hP k q h2).kept (hk q.1 g1 g2)
  · rcases va_rep_get ws isC w1 hl2 i x hx with ⟨a, h1, h2⟩ | ⟨h1, h2⟩ <;> rcases va_rep_get ws isC w1 hl2 j z hz with ⟨b, h3, h4⟩ | ⟨h3, h4⟩
    · have hab := hD1.1 a b x z h2 h4 hxz
      subst hab
      exact Option.some.inj (h1.symm.trans h3)
    · exact absurd (by rw [← hxz]; exact hD1.2 a x h2) (apart j z h3 h4).2
    · exact absurd (by rw [hxz]; exact hD1.2 b z h4) (apart i x h1 h2).2
    · exact hD.1 i j x z h2 h4 hxz
  · rcases va_rep_get ws isC w1 hl2 k q hq with ⟨j, h1, h2⟩ | ⟨h1, h2⟩
    · exact hF _ (hD1.2 j q h2)
    · exact hD.2 k q h2
section YRun
variable {p : Program} {l : Launch} {e : Env} {R : Room} {s : State} {m : MethodId} {args : Array Value} {below : List Frame} {meth : Method} {c : Code} {H : Heap} {locs : List Loc} {cells slots : Nat} {Q : State → Prop}
def yRun (p : Program) (l : Launch) (e : Env) (R : Room) (s : State) (m : MethodId) (args : Array Value) (below : List Frame) (meth : Method) (c : Code) (H : Heap) (locs : List Loc) (cells slots : Nat) (g : JFrame) (rest : List Value) (G : gl) (A1 : Nat → Prop) (n : Nat) (post : Option Value → va_W → Prop) (px : String → va_W → Prop) : Prop :=
  ∀ T : State, T.heap = H → Stand p l e R s m args below meth c T locs cells slots →
    (∃ (v : Option Value) (st₀ t T' : State) (L : List Loc), st₀.heap = H ∧ Stand p l e R s m args below meth c T' (locs ++ L) cells slots ∧ (∀ q ∈ L, A1 q.base) ∧ T'.heap = t.heap ∧ T'.vm = t.vm ∧ yE G A1 n post st₀ v t ∧ Goes p e below T g T' { g with pc := g.pc + 3, stack := v.toList ++ rest }) ∨
    (∃ (q : Addr) (st₀ t T' : State) (L : List Loc) (E : String) (ce : Cell), st₀.heap = H ∧ Stand p l e R s m args below meth c T' (locs ++ L) (cells + 1) (slots + 6) ∧ (∀ z ∈ L, A1 z.base) ∧ T'.heap = t.heap ∧ T'.vm = t.vm ∧ yX G A1 n px E st₀ t ∧ t.heap[q]? = some ce ∧ ce.vm = .none ∧ s.vm.findClass E = some ce.cls ∧ Steps p.tables e below (T.setTop g) ((T'.setTop { g with stack := rest }).pushFrame (.throwing q)))
variable {G : gl} {y : MethodName} {bytes cc : ByteArray} {maxL nL n index fr lo : Nat} {ret : Option FieldType} {ws wc : va_W} {post : Option Value → va_W → Prop} {px : String → va_W → Prop} {Ts : List Cond} {own C : String} {b : Addr} {As rest : List Value} {g : JFrame} {A : Nat → Prop}
/-- what a call's words say: the callee's code and links in the tables, and room for it -/
abbrev YB (R : Room) (s : State) (args : Array Value) (own : String) (index : Nat) (y : MethodName) (bytes : ByteArray) (maxL : Nat) (ret : Option FieldType) (fr lo n : Nat) : Prop := CallB R s args own index y bytes maxL ret (Cond.code y bytes maxL ret :: GT) (yR fr lo) 1 6 n
theorem y_pre {av : List Value} (hE : EV G A s s.heap) (hK : va_K (gD G) vwC (gT G) s) (hP : va_P (gD G) vwC ws H) (hD : va_D A ws) (hS : va_S A s.heap H locs) (hA : ∀ q, s.heap.size ≤ q → A q) (isC : List Nat) (hn : va_nd isC = true) (hC : isC.map (fun i => ws[i]?) = wc.map some) :
    ∀ U : State, U.heap = H → s.WarmedH U.vm → va_Pc av (PW G wc H.size) av.toArray U := by
  intro U hU hW
  have hDc : va_D A wc := hD.sub isC hn hC
  have hPc : va_P (gD G) vwC wc H := by
    intro k q hq
    have h1 : (isC.map (fun i => ws[i]?))[k]? = some (some q) := by rw [hC, List.getElem?_map, hq]; rfl
    rw [List.getElem?_map] at h1
    cases hi : isC[k]? with
    | none => rw [hi] at h1; cases h1
    | some i => rw [hi] at h1; exact hP i q (Option.some.inj h1)
  exact ⟨rfl, by rw [hU], hE.into hS.2.1 hW hU (va_free hD hS hA isC hC), by rw [hU]; exact hPc, va_K.moved hW.alike hK, hDc.weaken (fun _ _ _ _ => trivial)⟩
theorem y_runV (hx : p.tables.exec = Jvm.exec) (hb : c.code = cc) (hml : c.maxLocals = nL) (ho : s.vm.findClass own = some m.cls) (hM : YC l G y bytes maxL ret fr lo (.ref b :: As) wc post px) (cw : YB R s args own index y bytes maxL ret fr lo n ∧ (Cond.instanceMethod y).before args s = true ∧ (Cond.selects C y y).before args s = true)
    (hrec : ∃ cellB : Cell, H[b]? = some cellB ∧ cellB.vm.isStatics = false ∧ s.vm.findClass C = some cellB.cls) (hPc : ∀ U : State, U.heap = H → s.WarmedH U.vm → va_Pc (.ref b :: As) (PW G wc H.size) (Value.ref b :: As).toArray U)
    (hg : g.method = m) (hn : As.length = n) (hsize : g.locals.size = nL) (hstack : g.stack = As.reverse ++ .ref b :: rest) (hW : 2 * g.monitorRoom + (rest.map fun v => v.category).sum ≤ 8) (hdg : decode cc g.pc = .ok (.invokevirtual index, 3)) (hf : cells + 1 ≤ R.cells ∧ slots + 6 ≤ R.slots) :
    yRun p l e R s m args below meth c H locs cells slots g rest G (va_A wc H.size) wc.length post px := by
  obtain ⟨⟨-, -, hfr, hlo, hws, -, hcode, hini, hy, hlen, hl⟩, hin, hse⟩ := cw
  have hK : vx_Back l R p e below s args y 3 8 (PreOf R 1 6 (va_Pc (.ref b :: As) (PW G wc H.size))) (yPost G (va_A wc H.size) wc.length post) (vx_Post (yX G (va_A wc H.size) wc.length px) 1 6 (va_A wc H.size)) :=
    y_back hM H.size hfr hlo hws (fun a' U hW => word_at hW (Or.inl (by first | rfl | simp [Cond.onTables, Cond.keeps, Cond.steady])) hini)
  obtain ⟨cellB, hcB, hoB, hclB⟩ := hrec
  intro T hT X
  rcases vx_callV X hx (C := C) (bytes := bytes) (maxL := maxL) (ret := ret) ho hl hin hse hcode hy hK (by rw [hT]; exact hcB) hoB hclB hg (hsize.trans hml.symm) (argsL := As) (rest := rest) (fun sig h => hn.trans (hlen sig h)) hstack hW (by rw [hb]; exact hdg)
    (fun vm₁ hW₁ => ⟨hf.1, hf.2, hPc (T.setVm vm₁) hT hW₁⟩) with ⟨v, vm₁, ⟨U', l2, c2, s2⟩, hW₁, X', ⟨g', mk, t, L, e1, e2, hq, h1, hL, h2, h3⟩, st⟩ | ⟨q, vm₁, ⟨U', l2, c2, s2⟩, hW₁, X', ⟨g', mk, t, L, E, ce, e1, e2, hq, hce, hcv, hcl, h1, hL, h2, h3⟩, st⟩
  · dsimp only [Pt.U, Pt.locs, Pt.cells, Pt.slots] at X' e1 e2 h1 h2 h3 st
    subst h1; subst h2; subst h3
    exact Or.inl ⟨v, (T.setVm vm₁).calling g' mk (Value.ref b :: As).toArray, t, U', L, hT, X', hL, e1, e2, hq, st⟩
  · dsimp only [Pt.U, Pt.locs, Pt.cells, Pt.slots] at X' e1 e2 h1 h2 h3 st hcl
    subst h1; subst h2; subst h3
    exact Or.inr ⟨q, (T.setVm vm₁).calling g' mk (Value.ref b :: As).toArray, t, U', L, E, ce, hT, X', hL, e1, e2, hq, hce, hcv, vx_cls hW₁ hcl, st⟩
theorem y_runS (hx : p.tables.exec = Jvm.exec) (hb : c.code = cc) (hml : c.maxLocals = nL) (ho : s.vm.findClass own = some m.cls) (hM : YC l G y bytes maxL ret fr lo As wc post px) (cw : YB R s args own index y bytes maxL ret fr lo n ∧ (Cond.static y).before args s = true)
    (hPc : ∀ U : State, U.heap = H → s.WarmedH U.vm → va_Pc As (PW G wc H.size) As.toArray U)
    (hg : g.method = m) (hn : As.length = n) (hsize : g.locals.size = nL) (hstack : g.stack = As.reverse ++ rest) (hW : 2 * g.monitorRoom + (rest.map fun v => v.category).sum ≤ 8) (hdg : decode cc g.pc = .ok (.invokestatic index, 3)) (hf : cells + 1 ≤ R.cells ∧ slots + 6 ≤ R.slots) :
    yRun p l e R s m args below meth c H locs cells slots g rest G (va_A wc H.size) wc.length post px := by
  obtain ⟨⟨-, -, hfr, hlo, hws, -, hcode, hini, hy, hlen, hl⟩, hstt⟩ := cw
  have hK : vx_Back l R p e below s args y 3 8 (PreOf R 1 6 (va_Pc As (PW G wc H.size))) (yPost G (va_A wc H.size) wc.length post) (vx_Post (yX G (va_A wc H.size) wc.length px) 1 6 (va_A wc H.size)) :=
    y_back hM H.size hfr hlo hws (fun a' U hW => word_at hW (Or.inl (by first | rfl | simp [Cond.onTables, Cond.keeps, Cond.steady])) hini)
  intro T hT X
  rcases vx_callS X hx (bytes := bytes) (maxL := maxL) (ret := ret) ho hl hstt hini hcode hy hK hg (hsize.trans hml.symm) (argsL := As) (rest := rest) (fun sig h => hn.trans (hlen sig h)) hstack hW (by rw [hb]; exact hdg)
    (fun vm₁ hW₁ => ⟨hf.1, hf.2, hPc (T.setVm vm₁) hT hW₁⟩) with ⟨v, vm₁, ⟨U', l2, c2, s2⟩, hW₁, X', ⟨g', mk, t, L, e1, e2, hq, h1, hL, h2, h3⟩, st⟩ | ⟨q, vm₁, ⟨U', l2, c2, s2⟩, hW₁, X', ⟨g', mk, t, L, E, ce, e1, e2, hq, hce, hcv, hcl, h1, hL, h2, h3⟩, st⟩
  · dsimp only [Pt.U, Pt.locs, Pt.cells, Pt.slots] at X' e1 e2 h1 h2 h3 st
    subst h1; subst h2; subst h3
    exact Or.inl ⟨v, (T.setVm vm₁).calling g' mk As.toArray, t, U', L, hT, X', hL, e1, e2, hq, st⟩
  · dsimp only [Pt.U, Pt.locs, Pt.cells, Pt.slots] at X' e1 e2 h1 h2 h3 st hcl
    subst h1; subst h2; subst h3
    exact Or.inr ⟨q, (T.setVm vm₁).calling g' mk As.toArray, t, U', L, E, ce, hT, X', hL, e1, e2, hq, hce, hcv, vx_cls hW₁ hcl, st⟩
/-- BEHIND A CALL: the caller's world with the callee's cells put in anew -/
theorem y_call {pc : Nat} {ls : Array Slot} {st0 : List Value} (hr : yRun p l e R s m args below meth c H locs cells slots (F0 m pc ls st0) rest G (va_A wc H.size) wc.length post px) (hP : va_P (gD G) vwC ws H) (hD : va_D A ws) (hS : va_S A s.heap H locs) (hA : ∀ q, s.heap.size ≤ q → A q) (isC : List Nat) (hC : isC.map (fun i => ws[i]?) = wc.map some)
    (kx : ∀ (E : String) (w : va_W) (q : Addr) (ce : Cell) (H1 : Heap) (locs1 : List Loc), px E w → w.length = wc.length → va_P (gD G) vwC (va_rep ws isC w) H1 → va_D A (va_rep ws isC w) → va_S A s.heap H1 locs1 → H1[q]? = some ce → ce.vm = .none → s.vm.findClass E = some ce.cls → vx_W p l e R s m args below meth c H1 locs1 (cells + 1) (slots + 6) Q (F0 m pc ls rest) q)
    (kk : ∀ (v : Option Value) (w : va_W) (H1 : Heap) (locs1 : List Loc), post v w → w.length = wc.length → va_P (gD G) vwC (va_rep ws isC w) H1 → va_D A (va_rep ws isC w) → va_S A s.heap H1 locs1 → W p l e R s m args below meth c H1 locs1 cells slots Q (F0 m (pc + 3) ls (v.toList ++ rest))) : W p l e R s m args below meth c H locs cells slots Q (F0 m pc ls st0) := by
  have hFc := va_free hD hS hA isC hC
  intro T hT X
  rcases hr T hT X with ⟨v, st₀, t, T', L, h0, X', hL, e1, e2, ⟨w, hp, hlw, hP1, hK1, hD1, hF⟩, st⟩ | ⟨q, st₀, t, T', L, E, ce, h0, X', hL, e1, e2, ⟨w, hp, hlw, hP1, hK1, hD1, hF⟩, hce, hcv, hcl, st⟩
  · obtain ⟨k1, k2, k3⟩ := vx_keep h0 e1 hS (fun q _ h => hFc q h) hFc hL hF
    obtain ⟨r1, r2⟩ := va_repP hP hD isC hC hlw k2 hFc (by rw [e1]; exact hP1) hD1
    obtain ⟨t2, a1, b1⟩ := kk v w T'.heap (locs ++ L) hp hlw r1 r2 k3 T' rfl X'
    exact ⟨t2, st t2 a1, b1⟩
  · obtain ⟨k1, k2, k3⟩ := vx_keep h0 e1 hS (fun q _ h => hFc q h) hFc hL hF
    obtain ⟨r1, r2⟩ := va_repP hP hD isC hC hlw k2 hFc (by rw [e1]; exact hP1) hD1
    obtain ⟨t2, a1, b1⟩ := kx E w q ce T'.heap (locs ++ L) hp hlw r1 r2 k3 (by rw [e1]; exact hce) hcv hcl T' rfl X'
    exact ⟨t2, st.trans a1, b1⟩
variable {nw : Nat} {post0 : Option Value → va_W → Prop} {px0 : String → va_W → Prop}
/-- thrown out of this method -/
theorem y_out {pc : Nat} {ls : Array Slot} {E : String} {ce : Cell} {q : Addr} (hxt : ∀ x ∈ c.exceptionTable.toList, False) (hlocks : meth.locks = false) (hcell : H[q]? = some ce) (hv : ce.vm = .none) (hcl : s.vm.findClass E = some ce.cls)
    (hp : px0 E ws) (hl : ws.length = nw) (hK : va_K (gD G) vwC (gT G) s) (hP : va_P (gD G) vwC ws H) (hD : va_D A ws) (hS : va_S A s.heap H locs) : vx_W p l e R s m args below meth c H locs 1 6 (yMQ below G A nw post0 px0 args s) (F0 m pc ls rest) q := by
  intro T hT X
  obtain ⟨st1, hrun, hend, hW, hsm⟩ := X.leaveThrown q (g := F0 m pc ls rest) rfl rfl rfl (fun x hx => (hxt x hx).elim) hlocks
  have hcell9 : (T.setFrames (.throwing q :: below)).heap[q]? = some ce := by
    show T.heap[q]? = some ce
    rw [hT]; exact hcell
  have hT2 : (T.setFrames (.throwing q :: below)).heap = H := hT
  exact ⟨_, st1, .threw q, hrun, hend, Or.inr ⟨q, rfl, E, ce, locs, ⟨ws, hp, hl, by rw [hT2]; exact hP, va_K.moved hW.alike hK, hD, hS.F hT2⟩, hcell9, hv, hcl, hW, hsm, hS.2.2⟩⟩
theorem y_mono {g : JFrame} {Q2 : State → Prop} (h : ∀ t, Q t → Q2 t) (k : W p l e R s m args below meth c H locs cells slots Q g) : W p l e R s m args below meth c H locs cells slots Q2 g := fun T hT X => let ⟨t, a, b⟩ := k T hT X; ⟨t, a, h t b⟩
theorem y_retQ {v : Option Value} (hp : post0 v ws) (hl : ws.length = nw) (hK : va_K (gD G) vwC (gT G) s) (hP : va_P (gD G) vwC ws H) (hD : va_D A ws) (hS : va_S A s.heap H locs) {g : JFrame}
    (k : W p l e R s m args below meth c H locs 0 0 (MQ below (fun _ st o t => o = .returned v ∧ yE G A nw post0 st v t) args s 0 0 A) g) : W p l e R s m args below meth c H locs 0 0 (yMQ below G A nw post0 px0 args s) g := by
  refine y_mono (fun t h => ?_) k
  obtain ⟨o, h1, h2, ⟨rfl, h4⟩, L, h5, h6⟩ := h
  exact ⟨_, h1, h2, Or.inl ⟨v, rfl, h4, L, h5, h6⟩⟩
theorem yr_i {pc : Nat} {ls : Array Slot} {v : Int32} (hx : p.tables.exec = Jvm.exec) (hb : c.code = cc) (hr : meth.sig.returnType = some .int) (hlocks : meth.locks = false) (hp : post0 (some (.int v)) ws) (hl : ws.length = nw) (hK : va_K (gD G) vwC (gT G) s) (hP : va_P (gD G) vwC ws H) (hD : va_D A ws) (hS : va_S A s.heap H locs) (d : decode cc pc = .ok (.ireturn, 1)) :
    W p l e R s m args below meth c H locs 0 0 (yMQ below G A nw post0 px0 args s) (F0 m pc ls [.int v]) :=
  y_retQ (v := some (.int v)) hp hl hK hP hD hS (W.iret (v := v) hx hb hr (fun t ht hW => ⟨rfl, ws, hp, hl, by rw [ht]; exact hP, va_K.moved hW.alike hK, hD, hS.F ht⟩) hS.2.2 d)
theorem yr_z {pc : Nat} {ls : Array Slot} {v : Int32} {ty : FieldType} (hx : p.tables.exec = Jvm.exec) (hb : c.code = cc) (hr : meth.sig.returnType = some ty) (hn : narrow ty (.int v) = .int v) (hlocks : meth.locks = false) (hp : post0 (some (.int v)) ws) (hl : ws.length = nw) (hK : va_K (gD G) vwC (gT G) s) (hP : va_P (gD G) vwC ws H) (hD : va_D A ws) (hS : va_S A s.heap H locs) (d : decode cc pc = .ok (.ireturn, 1)) :
    W p l e R s m args below meth c H locs 0 0 (yMQ below G A nw post0 px0 args s) (F0 m pc ls [.int v]) :=
  y_retQ (v := some (.int v)) hp hl hK hP hD hS (W.zret (v := v) hx hb hr hn (fun t ht hW => ⟨rfl, ws, hp, hl, by rw [ht]; exact hP, va_K.moved hW.alike hK, hD, hS.F ht⟩) hS.2.2 d)
theorem yr_v {pc : Nat} {ls : Array Slot} (hx : p.tables.exec = Jvm.exec) (hb : c.code = cc) (hr : meth.sig.returnType = none) (hlocks : meth.locks = false) (hp : post0 none ws) (hl : ws.length = nw) (hK : va_K (gD G) vwC (gT G) s) (hP : va_P (gD G) vwC ws H) (hD : va_D A ws) (hS : va_S A s.heap H locs) (d : decode cc pc = .ok (.return_, 1)) :
    W p l e R s m args below meth c H locs 0 0 (yMQ below G A nw post0 px0 args s) (F0 m pc ls []) :=
  y_retQ (v := none) hp hl hK hP hD hS (W.vret hx hb hr (fun t ht hW => ⟨rfl, ws, hp, hl, by rw [ht]; exact hP, va_K.moved hW.alike hK, hD, hS.F ht⟩) hS.2.2 d)
theorem yr_l {pc : Nat} {ls : Array Slot} {v : Int64} (hx : p.tables.exec = Jvm.exec) (hb : c.code = cc) (hr : meth.sig.returnType = some .long) (hlocks : meth.locks = false) (hp : post0 (some (.long v)) ws) (hl : ws.length = nw) (hK : va_K (gD G) vwC (gT G) s) (hP : va_P (gD G) vwC ws H) (hD : va_D A ws) (hS : va_S A s.heap H locs) (d : decode cc pc = .ok (.lreturn, 1)) :
    W p l e R s m args below meth c H locs 0 0 (yMQ below G A nw post0 px0 args s) (F0 m pc ls [.long v]) :=
  y_retQ (v := some (.long v)) hp hl hK hP hD hS (W.lret (v := v) hx hb hr (fun t ht hW => ⟨rfl, ws, hp, hl, by rw [ht]; exact hP, va_K.moved hW.alike hK, hD, hS.F ht⟩) hS.2.2 d)
theorem yr_a {pc : Nat} {ls : Array Slot} {a : Nat} {rt : FieldType} (hx : p.tables.exec = Jvm.exec) (hb : c.code = cc) (hr : meth.sig.returnType = some rt) (hrt : (∃ n, rt = .object n) ∨ ∃ t, rt = .array t) (hlocks : meth.locks = false) (hp : post0 (some (.ref a)) ws) (hl : ws.length = nw) (hK : va_K (gD G) vwC (gT G) s) (hP : va_P (gD G) vwC ws H) (hD : va_D A ws) (hS : va_S A s.heap H locs) (d : decode cc pc = .ok (.areturn, 1)) :
    W p l e R s m args below meth c H locs 0 0 (yMQ below G A nw post0 px0 args s) (F0 m pc ls [.ref a]) :=
  y_retQ (v := some (.ref a)) hp hl hK hP hD hS (W.aret (v := .ref a) hx hb hr hrt (Or.inr ⟨a, rfl⟩) (fun t ht hW => ⟨rfl, ws, hp, hl, by rw [ht]; exact hP, va_K.moved hW.alike hK, hD, hS.F ht⟩) hS.2.2 d)
end YRun
/-- a new exception with a text is thrown -/
abbrev xN : List String := ["java/lang/RuntimeException", "java/lang/Exception"]
def XW (cls : String) : List Cond := [.castable cls cls, .declares ⟨"java/lang/RuntimeException", "<init>", "(Ljava/lang/String;)V"⟩, .declares ⟨"java/lang/Exception", "<init>", "(Ljava/lang/String;)V"⟩, .declares ⟨"java/lang/Throwable", "<init>", "(Ljava/lang/String;)V"⟩]
def XOk (own : String) (ik ic : Nat) (cls : String) : Prop := Bundle.fit cls = true ∧ Cond.classLink own ik cls ∈ GT ∧ Cond.initialized cls ∈ GT ∧ (∀ w ∈ (vx_atS own ic cls xN).filter goodWord, w ∈ lw_tbl) ∧ (∀ w ∈ (vx_atS own ic cls xN).filter (fun w => !goodWord w), w ∈ XW cls) ∧ ∀ w ∈ Cond.classLink own ik cls :: Cond.initialized cls :: vx_atS own ic cls xN, vx_ot w = true
theorem xN_fit : ∀ n ∈ xN, Bundle.fit n = true := by decide +kernel
section YThrow
variable {p : Program} {l : Launch} {e : Env} {s : State} {m : MethodId} {args : Array Value} {below : List Frame} {meth : Method} {c : Code} {H : Heap} {locs : List Loc} {G : gl} {cc : ByteArray} {fr lo nw : Nat} {ws : va_W} {post0 : Option Value → va_W → Prop} {px0 : String → va_W → Prop} {A : Nat → Prop} {rest : List Value}
theorem yt_S {pc : Nat} {ls : Array Slot} {own cls text : String} {ik is ic sa nL : Nat} (hx : p.tables.exec = Jvm.exec) (hb : c.code = cc) (hl : l.stackTraces = false) (hown : s.vm.findClass own = some m.cls) (X : XOk own ik ic cls) (hca : va_Nw (.castable cls cls) s) (hstr : vk_R own is text sa s)
    (hg : ∀ w ∈ GT, w.before args s = true) (hE : EV G A s s.heap) (hK : va_K (gD G) vwC (gT G) s) (hP : va_P (gD G) vwC ws H) (hD : va_D A ws) (hS : va_S A s.heap H locs) (hA : ∀ q, s.heap.size ≤ q → A q) (hml : c.maxLocals = nL) (hls : ls.size = nL) (hxt : ∀ x ∈ c.exceptionTable.toList, False) (hlocks : meth.locks = false)
    (d0 : decode cc pc = .ok (.new ik, 3)) (d3 : decode cc (pc + 3) = .ok (.dup, 1)) (d4 : decode cc (pc + 4) = .ok (.ldc is, 2)) (d6 : decode cc (pc + 6) = .ok (.invokespecial ic, 3)) (d9 : decode cc (pc + 9) = .ok (.athrow, 1))
    (hfr : 6 ≤ fr) (hlo : (rest.map fun v => v.category).sum + 82 ≤ lo) (hp : px0 cls ws) (hlen : ws.length = nw) :
    W p l e (yR fr lo) s m args below meth c H locs 0 0 (yMQ below G A nw post0 px0 args s) (F0 m pc ls rest) := by
  obtain ⟨x1, x2, x3, x4, x5, x6⟩ := X
  have hdec : ∀ w ∈ XW cls, w.before args s = true := by
    refine List.forall_mem_cons.mpr ⟨va_Nw.use rfl hca, List.forall_mem_cons.mpr ⟨va_Nw.use rfl (nw_194 hE.1), List.forall_mem_cons.mpr ⟨va_Nw.use rfl (nw_196 hE.1), List.forall_mem_cons.mpr ⟨va_Nw.use rfl (nw_198 hE.1), fun _ h => absurd h List.not_mem_nil⟩⟩⟩⟩
  have hat : ∀ w ∈ vx_atS own ic cls xN, w.before args s = true := vx_hat (fun w hw => hg w (List.mem_filter.mpr ⟨x4 w hw, (List.mem_filter.mp hw).2⟩)) x5 hdec
  refine y_mono (Q := vx_MQ below (fun _ _ _ _ => False) (yX G A nw px0) args s 1 6 A) (fun t h => ?_) (vx_throwS (names := xN) hx hb hl hown x1 xN_fit (hg _ x2) (hg _ x3) hstr hat x6 hE.2.2.2.1 hE.2.2.2.2.1 hS (hls.trans hml.symm) d0 d3 d4 d6 d9 (fun x hx => (hxt x hx).elim) (by show 2 + 3 < fr; omega) (by show (rest.map fun v => v.category).sum + (13 * (2 + 1) + 43) ≤ lo; omega) (by show 0 + 1 ≤ 1; omega) (by show 0 + 6 ≤ 6; omega) hlocks (fun t ha h1 h2 => ?_) hS.2.2 (by omega) (by omega))
  · obtain ⟨o, h1, h2, h3 | h3⟩ := h
    · exact h3.1.elim
    · exact ⟨o, h1, h2, Or.inr h3⟩
  · refine ⟨ws, hp, hlen, hP.kept (fun k q hq => h2 q.1 (hP k q hq).lt), va_K.moved ha hK, hD, Nat.le_trans hS.1 h1, fun q hq hn => ?_⟩
    rw [h2 q (Nat.lt_of_lt_of_le hq hS.1)]
    exact hS.2.1 q hq hn
end YThrow
end
section
/-- a truth value as the machine has it -/
def bz (b : Bool) : Int32 := if b then 1 else 0
theorem bz_t {P : Prop} [Decidable P] (h : P) : nI 1 = bz (decide P) := by rw [decide_eq_true h]; rfl
theorem bz_f {P : Prop} [Decidable P] (h : ¬ P) : nI 0 = bz (decide P) := by rw [decide_eq_false h]; rfl
theorem bz_n0 {P : Prop} [Decidable P] (h : P) : ¬ bz (decide P) = 0 := by rw [decide_eq_true h]; decide

/-- the byte at the place, 256 at the end; as the machine has it -/
def toI (c : Nat) : Int32 := if c = 256 then -1 else nI c
def hr (t : Nat → Nat) (n p : Nat) : Nat := if p < n then t p else 256
theorem hr_le {t : Nat → Nat} (ht : ∀ i, t i < 256) (n p : Nat) : hr t n p ≤ 256 := by unfold hr; split; exact Nat.le_of_lt (ht p); exact Nat.le_refl _
theorem toI_eq {a b : Nat} (ha : a ≤ 256) (hb : b < 256) : toI a = nI b ↔ a = b := by
  unfold toI
  by_cases h : a = 256
  · rw [if_pos h]
    refine ⟨fun q => ?_, fun q => by omega⟩
    have := congrArg Int32.toInt q
    rw [nI_toInt (by omega)] at this
    have h2 : (-1 : Int32).toInt = -1 := by decide
    omega
  · rw [if_neg h]
    exact nI_eq (by omega) (by omega)
theorem toI_end {a : Nat} (ha : a ≤ 256) : toI a = -1 ↔ a = 256 := by
  unfold toI
  by_cases h : a = 256
  · rw [if_pos h]; exact ⟨fun _ => h, fun _ => rfl⟩
  · rw [if_neg h]
    refine ⟨fun q => ?_, fun q => absurd q h⟩
    have := congrArg Int32.toInt q
    rw [nI_toInt (by omega)] at this
    have h2 : (-1 : Int32).toInt = -1 := by decide
    omega
theorem sb_eqA : ∀ a, a < 256 → ∀ b, b < 128 → (sb_b a = nI b ↔ a = b) := by decide +kernel
theorem sb_eqN {a b : Nat} (ha : a < 256) (hb : b < 128) : sb_b a = nI b ↔ a = b := sb_eqA a ha b hb
def isBl (b : Int32) : Bool := decide (b = nI 32 ∨ b = nI 9 ∨ b = nI 10 ∨ b = nI 13)
def isLe (b : Int32) : Bool := decide ((nI 65 ≤ b ∧ b ≤ nI 90) ∨ (nI 97 ≤ b ∧ b ≤ nI 122))
def isDi (b : Int32) : Bool := decide (nI 48 ≤ b ∧ b ≤ nI 57)
def isNu (b : Int32) : Bool := decide ((nI 48 ≤ b ∧ b ≤ nI 57) ∨ b = nI 43 ∨ b = nI 45 ∨ b = nI 46)
def blN (c : Nat) : Bool := decide (c = 32 ∨ c = 9 ∨ c = 10 ∨ c = 13)
def leN (c : Nat) : Bool := decide ((65 ≤ c ∧ c ≤ 90) ∨ (97 ≤ c ∧ c ≤ 122))
def diN (c : Nat) : Bool := decide (48 ≤ c ∧ c ≤ 57)
def nuN (c : Nat) : Bool := decide ((48 ≤ c ∧ c ≤ 57) ∨ c = 43 ∨ c = 45 ∨ c = 46)
theorem ch_b : ∀ c, c < 256 → isBl (sb_b c) = blN c ∧ isLe (sb_b c) = leN c ∧ isDi (sb_b c) = diN c ∧ isNu (sb_b c) = nuN c := by decide +kernel
theorem ch_h : ∀ c, c < 257 → isBl (toI c) = blN c ∧ isLe (toI c) = leN c ∧ isDi (toI c) = diN c ∧ isNu (toI c) = nuN c := by decide +kernel
/-- the end of a run of bytes of a kind -/
def rnA (P : Nat → Bool) (t : Nat → Nat) (n : Nat) : Nat → Nat → Nat
  | 0, p => p
  | m + 1, p => if p < n ∧ P (t p) = true then rnA P t n m (p + 1) else p
def rn (P : Nat → Bool) (t : Nat → Nat) (n p : Nat) : Nat := rnA P t n (n - p) p
theorem rn_step {P : Nat → Bool} {t : Nat → Nat} {n p : Nat} (h : p < n) (hP : P (t p) = true) : rn P t n p = rn P t n (p + 1) := by
  unfold rn
  rw [show n - p = (n - (p + 1)) + 1 by omega]
  simp only [rnA]
  rw [if_pos ⟨h, hP⟩]
theorem rn_stop {P : Nat → Bool} {t : Nat → Nat} {n p : Nat} (h : ¬ (p < n ∧ P (t p) = true)) : rn P t n p = p := by
  unfold rn
  cases n - p with
  | zero => rfl
  | succ m => simp only [rnA]; rw [if_neg h]
theorem rn_bd (P : Nat → Bool) (t : Nat → Nat) (n : Nat) : ∀ (d p : Nat), n - p = d → p ≤ n → p ≤ rn P t n p ∧ rn P t n p ≤ n := by
  intro d
  induction d with
  | zero =>
    intro p h1 h2
    rw [rn_stop (fun q => by omega)]
    exact ⟨Nat.le_refl _, h2⟩
  | succ d ih =>
    intro p h1 h2
    by_cases h : p < n ∧ P (t p) = true
    · rw [rn_step h.1 h.2]
      obtain ⟨a, b⟩ := ih (p + 1) (by omega) (by omega)
      exact ⟨by omega, b⟩
    · rw [rn_stop h]
      exact ⟨Nat.le_refl _, h2⟩
theorem rn_ge {P : Nat → Bool} {t : Nat → Nat} {n p : Nat} (h : p ≤ n) : p ≤ rn P t n p := (rn_bd P t n _ p rfl h).1
theorem rn_le {P : Nat → Bool} {t : Nat → Nat} {n p : Nat} (h : p ≤ n) : rn P t n p ≤ n := (rn_bd P t n _ p rfl h).2
theorem rn_end {P : Nat → Bool} {t : Nat → Nat} {n p : Nat} : ¬ (rn P t n p < n ∧ P (t (rn P t n p)) = true) := by
  suffices h : ∀ (d p : Nat), n - p = d → ¬ (rn P t n p < n ∧ P (t (rn P t n p)) = true) from h _ p rfl
  intro d
  induction d with
  | zero => intro p h1; rw [rn_stop (fun q => by omega)]; omega
  | succ d ih =>
    intro p h1
    by_cases h : p < n ∧ P (t p) = true
    · rw [rn_step h.1 h.2]; exact ih (p + 1) (by omega)
    · rw [rn_stop h]; exact h
/-- behind a sign, if there is one -/
def sgN (c : Nat) : Bool := decide (c = 43 ∨ c = 45)
def ps (t : Nat → Nat) (n p : Nat) : Nat := if sgN (hr t n p) then p + 1 else p
/-- what is told of a byte that can't stand there -/
def uxp (c : Nat) : Nat := if c = 256 ∨ leN c = true ∨ nuN c = true ∨ c = 40 ∨ c = 41 ∨ c = 44 then 3 else 1

section YRows
variable {p : Program} {l : Launch} {e : Env} {R : Room} {s : State} {m : MethodId} {args : Array Value} {below : List Frame} {meth : Method} {c : Code} {H : Heap} {locs : List Loc} {cells slots : Nat} {Q : State → Prop} {cc : ByteArray} {pc : Nat} {ls : Array Slot} {rest : List Value}
theorem y_eqi {x y : Int32} (h : x = y) (k : W p l e R s m args below meth c H locs cells slots Q (F0 m pc ls (.int y :: rest))) : W p l e R s m args below meth c H locs cells slots Q (F0 m pc ls (.int x :: rest)) := h ▸ k
theorem y_eql {x y : Int64} (h : x = y) (k : W p l e R s m args below meth c H locs cells slots Q (F0 m pc ls (.long y :: rest))) : W p l e R s m args below meth c H locs cells slots Q (F0 m pc ls (.long x :: rest)) := h ▸ k
theorem yn_icmp_eq {a b : Nat} {off : Int} {tgt : Nat} (hexec : p.tables.exec = Jvm.exec) (hb0 : c.code = cc) (hdg : decode cc pc = .ok (.if_icmp .eq off, 3)) (ht : (pc : Int) + off = (tgt : Int)) (ha : a < 2 ^ 31) (hb : b < 2 ^ 31) (kt : a = b → W p l e R s m args below meth c H locs cells slots Q (F0 m tgt ls rest)) (kf : ¬ a = b → W p l e R s m args below meth c H locs cells slots Q (F0 m (pc + 3) ls rest)) : W p l e R s m args below meth c H locs cells slots Q (F0 m pc ls (.int (nI b) :: .int (nI a) :: rest)) :=
  lv_icmp_eq hexec hb0 hdg ht (fun h => kt ((nI_eq ha hb).mp h)) (fun h => kf (fun q => h (by rw [q])))
theorem yn_icmp_ne {a b : Nat} {off : Int} {tgt : Nat} (hexec : p.tables.exec = Jvm.exec) (hb0 : c.code = cc) (hdg : decode cc pc = .ok (.if_icmp .ne off, 3)) (ht : (pc : Int) + off = (tgt : Int)) (ha : a < 2 ^ 31) (hb : b < 2 ^ 31) (kt : ¬ a = b → W p l e R s m args below meth c H locs cells slots Q (F0 m tgt ls rest)) (kf : a = b → W p l e R s m args below meth c H locs cells slots Q (F0 m (pc + 3) ls rest)) : W p l e R s m args below meth c H locs cells slots Q (F0 m pc ls (.int (nI b) :: .int (nI a) :: rest)) :=
  lv_icmp_ne hexec hb0 hdg ht (fun h => kt (fun q => h (by rw [q]))) (fun h => kf ((nI_eq ha hb).mp h))
theorem yn_icmp_lt {a b : Nat} {off : Int} {tgt : Nat} (hexec : p.tables.exec = Jvm.exec) (hb0 : c.code = cc) (hdg : decode cc pc = .ok (.if_icmp .lt off, 3)) (ht : (pc : Int) + off = (tgt : Int)) (ha : a < 2 ^ 31) (hb : b < 2 ^ 31) (kt : a < b → W p l e R s m args below meth c H locs cells slots Q (F0 m tgt ls rest)) (kf : b ≤ a → W p l e R s m args below meth c H locs cells slots Q (F0 m (pc + 3) ls rest)) : W p l e R s m args below meth c H locs cells slots Q (F0 m pc ls (.int (nI b) :: .int (nI a) :: rest)) :=
  lv_icmp_lt hexec hb0 hdg ht (fun h => kt ((nI_ltI ha hb).mp h)) (fun h => kf (Nat.not_lt.mp fun q => h (nI_lt q hb)))
theorem yn_icmp_ge {a b : Nat} {off : Int} {tgt : Nat} (hexec : p.tables.exec = Jvm.exec) (hb0 : c.code = cc) (hdg : decode cc pc = .ok (.if_icmp .ge off, 3)) (ht : (pc : Int) + off = (tgt : Int)) (ha : a < 2 ^ 31) (hb : b < 2 ^ 31) (kt : b ≤ a → W p l e R s m args below meth c H locs cells slots Q (F0 m tgt ls rest)) (kf : a < b → W p l e R s m args below meth c H locs cells slots Q (F0 m (pc + 3) ls rest)) : W p l e R s m args below meth c H locs cells slots Q (F0 m pc ls (.int (nI b) :: .int (nI a) :: rest)) :=
  lv_icmp_ge hexec hb0 hdg ht (fun h => kt ((nI_leI hb ha).mp h)) (fun h => kf (Nat.not_le.mp fun q => h (nI_le q ha)))
theorem yn_icmp_gt {a b : Nat} {off : Int} {tgt : Nat} (hexec : p.tables.exec = Jvm.exec) (hb0 : c.code = cc) (hdg : decode cc pc = .ok (.if_icmp .gt off, 3)) (ht : (pc : Int) + off = (tgt : Int)) (ha : a < 2 ^ 31) (hb : b < 2 ^ 31) (kt : b < a → W p l e R s m args below meth c H locs cells slots Q (F0 m tgt ls rest)) (kf : a ≤ b → W p l e R s m args below meth c H locs cells slots Q (F0 m (pc + 3) ls rest)) : W p l e R s m args below meth c H locs cells slots Q (F0 m pc ls (.int (nI b) :: .int (nI a) :: rest)) :=
  lv_icmp_gt hexec hb0 hdg ht (fun h => kt ((nI_ltI hb ha).mp h)) (fun h => kf (Nat.not_lt.mp fun q => h (nI_lt q ha)))
theorem yn_icmp_le {a b : Nat} {off : Int} {tgt : Nat} (hexec : p.tables.exec = Jvm.exec) (hb0 : c.code = cc) (hdg : decode cc pc = .ok (.if_icmp .le off, 3)) (ht : (pc : Int) + off = (tgt : Int)) (ha : a < 2 ^ 31) (hb : b < 2 ^ 31) (kt : a ≤ b → W p l e R s m args below meth c H locs cells slots Q (F0 m tgt ls rest)) (kf : b < a → W p l e R s m args below meth c H locs cells slots Q (F0 m (pc + 3) ls rest)) : W p l e R s m args below meth c H locs cells slots Q (F0 m pc ls (.int (nI b) :: .int (nI a) :: rest)) :=
  lv_icmp_le hexec hb0 hdg ht (fun h => kt ((nI_leI ha hb).mp h)) (fun h => kf (Nat.not_le.mp fun q => h (nI_le q hb)))
theorem yn_if_eq {a : Nat} {off : Int} {tgt : Nat} (hexec : p.tables.exec = Jvm.exec) (hb0 : c.code = cc) (hdg : decode cc pc = .ok (.ifCond .eq off, 3)) (ht : (pc : Int) + off = (tgt : Int)) (ha : a < 2 ^ 31) (kt : a = 0 → W p l e R s m args below meth c H locs cells slots Q (F0 m tgt ls rest)) (kf : ¬ a = 0 → W p l e R s m args below meth c H locs cells slots Q (F0 m (pc + 3) ls rest)) : W p l e R s m args below meth c H locs cells slots Q (F0 m pc ls (.int (nI a) :: rest)) :=
  lv_if_eq hexec hb0 hdg ht (fun h => kt (Classical.byContradiction fun q => nI_ne0 (Nat.pos_of_ne_zero q) ha h)) (fun h => kf (fun q => h (by rw [q]; rfl)))
theorem yn_if_ne {a : Nat} {off : Int} {tgt : Nat} (hexec : p.tables.exec = Jvm.exec) (hb0 : c.code = cc) (hdg : decode cc pc = .ok (.ifCond .ne off, 3)) (ht : (pc : Int) + off = (tgt : Int)) (ha : a < 2 ^ 31) (kt : ¬ a = 0 → W p l e R s m args below meth c H locs cells slots Q (F0 m tgt ls rest)) (kf : a = 0 → W p l e R s m args below meth c H locs cells slots Q (F0 m (pc + 3) ls rest)) : W p l e R s m args below meth c H locs cells slots Q (F0 m pc ls (.int (nI a) :: rest)) :=
  lv_if_ne hexec hb0 hdg ht (fun h => kt (fun q => h (by rw [q]; rfl))) (fun h => kf (Classical.byContradiction fun q => nI_ne0 (Nat.pos_of_ne_zero q) ha h))
theorem yn_if_lt {a : Nat} {off : Int} {tgt : Nat} (hexec : p.tables.exec = Jvm.exec) (hb0 : c.code = cc) (hdg : decode cc pc = .ok (.ifCond .lt off, 3)) (ht : (pc : Int) + off = (tgt : Int)) (ha : a < 2 ^ 31) (kt : False → W p l e R s m args below meth c H locs cells slots Q (F0 m tgt ls rest)) (kf : True → W p l e R s m args below meth c H locs cells slots Q (F0 m (pc + 3) ls rest)) : W p l e R s m args below meth c H locs cells slots Q (F0 m pc ls (.int (nI a) :: rest)) :=
  lv_if_lt hexec hb0 hdg ht (fun h => (nI_pos ha h).elim) (fun _ => kf trivial)
theorem yn_if_ge {a : Nat} {off : Int} {tgt : Nat} (hexec : p.tables.exec = Jvm.exec) (hb0 : c.code = cc) (hdg : decode cc pc = .ok (.ifCond .ge off, 3)) (ht : (pc : Int) + off = (tgt : Int)) (ha : a < 2 ^ 31) (kt : True → W p l e R s m args below meth c H locs cells slots Q (F0 m tgt ls rest)) (kf : False → W p l e R s m args below meth c H locs cells slots Q (F0 m (pc + 3) ls rest)) : W p l e R s m args below meth c H locs cells slots Q (F0 m pc ls (.int (nI a) :: rest)) :=
  lv_if_ge hexec hb0 hdg ht (fun _ => kt trivial) (fun h => (h (nI_pos' ha)).elim)
theorem yn_if_gt {a : Nat} {off : Int} {tgt : Nat} (hexec : p.tables.exec = Jvm.exec) (hb0 : c.code = cc) (hdg : decode cc pc = .ok (.ifCond .gt off, 3)) (ht : (pc : Int) + off = (tgt : Int)) (ha : a < 2 ^ 31) (kt : 0 < a → W p l e R s m args below meth c H locs cells slots Q (F0 m tgt ls rest)) (kf : a = 0 → W p l e R s m args below meth c H locs cells slots Q (F0 m (pc + 3) ls rest)) : W p l e R s m args below meth c H locs cells slots Q (F0 m pc ls (.int (nI a) :: rest)) :=
  lv_if_gt hexec hb0 hdg ht (fun h => kt (Nat.pos_of_ne_zero fun q => absurd h (by rw [q]; decide))) (fun h => kf (Classical.byContradiction fun q => h (nI_lt (a := 0) (Nat.pos_of_ne_zero q) ha)))
theorem yn_if_le {a : Nat} {off : Int} {tgt : Nat} (hexec : p.tables.exec = Jvm.exec) (hb0 : c.code = cc) (hdg : decode cc pc = .ok (.ifCond .le off, 3)) (ht : (pc : Int) + off = (tgt : Int)) (ha : a < 2 ^ 31) (kt : a = 0 → W p l e R s m args below meth c H locs cells slots Q (F0 m tgt ls rest)) (kf : 0 < a → W p l e R s m args below meth c H locs cells slots Q (F0 m (pc + 3) ls rest)) : W p l e R s m args below meth c H locs cells slots Q (F0 m pc ls (.int (nI a) :: rest)) :=
  lv_if_le hexec hb0 hdg ht (fun h => kt (Classical.byContradiction fun q => nI_nle (Nat.pos_of_ne_zero q) ha h)) (fun h => kf (Nat.pos_of_ne_zero fun q => h (by rw [q]; decide)))
theorem yz_if_eq {P : Prop} [Decidable P] {off : Int} {tgt : Nat} (hexec : p.tables.exec = Jvm.exec) (hb0 : c.code = cc) (hdg : decode cc pc = .ok (.ifCond .eq off, 3)) (ht : (pc : Int) + off = (tgt : Int)) (kt : ¬ P → W p l e R s m args below meth c H locs cells slots Q (F0 m tgt ls rest)) (kf : P → W p l e R s m args below meth c H locs cells slots Q (F0 m (pc + 3) ls rest)) : W p l e R s m args below meth c H locs cells slots Q (F0 m pc ls (.int (bz (decide P)) :: rest)) :=
  lv_if_eq hexec hb0 hdg ht (fun h => kt (fun q => bz_n0 q h)) (fun h => kf (Classical.byContradiction fun q => h (bz_f q).symm))
theorem yz_if_ne {P : Prop} [Decidable P] {off : Int} {tgt : Nat} (hexec : p.tables.exec = Jvm.exec) (hb0 : c.code = cc) (hdg : decode cc pc = .ok (.ifCond .ne off, 3)) (ht : (pc : Int) + off = (tgt : Int)) (kt : P → W p l e R s m args below meth c H locs cells slots Q (F0 m tgt ls rest)) (kf : ¬ P → W p l e R s m args below meth c H locs cells slots Q (F0 m (pc + 3) ls rest)) : W p l e R s m args below meth c H locs cells slots Q (F0 m pc ls (.int (bz (decide P)) :: rest)) :=
  lv_if_ne hexec hb0 hdg ht (fun h => kt (Classical.byContradiction fun q => h (bz_f q).symm)) (fun h => kf (fun q => bz_n0 q h))
theorem yy_if_eq {P : Bool} {off : Int} {tgt : Nat} (hexec : p.tables.exec = Jvm.exec) (hb0 : c.code = cc) (hdg : decode cc pc = .ok (.ifCond .eq off, 3)) (ht : (pc : Int) + off = (tgt : Int)) (kt : P = false → W p l e R s m args below meth c H locs cells slots Q (F0 m tgt ls rest)) (kf : P = true → W p l e R s m args below meth c H locs cells slots Q (F0 m (pc + 3) ls rest)) : W p l e R s m args below meth c H locs cells slots Q (F0 m pc ls (.int (bz P) :: rest)) := by
  refine lv_if_eq hexec hb0 hdg ht (fun h => kt ?_) (fun h => kf ?_) <;> (cases P <;> first | rfl | exact absurd h (by decide) | exact absurd (by decide) h)
theorem yy_if_ne {P : Bool} {off : Int} {tgt : Nat} (hexec : p.tables.exec = Jvm.exec) (hb0 : c.code = cc) (hdg : decode cc pc = .ok (.ifCond .ne off, 3)) (ht : (pc : Int) + off = (tgt : Int)) (kt : P = true → W p l e R s m args below meth c H locs cells slots Q (F0 m tgt ls rest)) (kf : P = false → W p l e R s m args below meth c H locs cells slots Q (F0 m (pc + 3) ls rest)) : W p l e R s m args below meth c H locs cells slots Q (F0 m pc ls (.int (bz P) :: rest)) := by
  refine lv_if_ne hexec hb0 hdg ht (fun h => kt ?_) (fun h => kf ?_) <;> (cases P <;> first | rfl | exact absurd h (by decide) | exact absurd (by decide) h)
theorem yh_icmp_eq {a b : Nat} {off : Int} {tgt : Nat} (hexec : p.tables.exec = Jvm.exec) (hb0 : c.code = cc) (hdg : decode cc pc = .ok (.if_icmp .eq off, 3)) (ht : (pc : Int) + off = (tgt : Int)) (ha : a ≤ 256) (hb : b < 256) (kt : a = b → W p l e R s m args below meth c H locs cells slots Q (F0 m tgt ls rest)) (kf : ¬ a = b → W p l e R s m args below meth c H locs cells slots Q (F0 m (pc + 3) ls rest)) : W p l e R s m args below meth c H locs cells slots Q (F0 m pc ls (.int (nI b) :: .int (toI a) :: rest)) :=
  lv_icmp_eq hexec hb0 hdg ht (fun h => kt ((toI_eq ha hb).mp h)) (fun h => kf (fun q => h ((toI_eq ha hb).mpr q)))
theorem yb_icmp_eq {a b : Nat} {off : Int} {tgt : Nat} (hexec : p.tables.exec = Jvm.exec) (hb0 : c.code = cc) (hdg : decode cc pc = .ok (.if_icmp .eq off, 3)) (ht : (pc : Int) + off = (tgt : Int)) (ha : a < 256) (hb : b < 128) (kt : a = b → W p l e R s m args below meth c H locs cells slots Q (F0 m tgt ls rest)) (kf : ¬ a = b → W p l e R s m args below meth c H locs cells slots Q (F0 m (pc + 3) ls rest)) : W p l e R s m args below meth c H locs cells slots Q (F0 m pc ls (.int (nI b) :: .int (sb_b a) :: rest)) :=
  lv_icmp_eq hexec hb0 hdg ht (fun h => kt ((sb_eqN ha hb).mp h)) (fun h => kf (fun q => h ((sb_eqN ha hb).mpr q)))
theorem ye_icmp_eq {a : Nat} {off : Int} {tgt : Nat} (hexec : p.tables.exec = Jvm.exec) (hb0 : c.code = cc) (hdg : decode cc pc = .ok (.if_icmp .eq off, 3)) (ht : (pc : Int) + off = (tgt : Int)) (ha : a ≤ 256) (kt : a = 256 → W p l e R s m args below meth c H locs cells slots Q (F0 m tgt ls rest)) (kf : ¬ a = 256 → W p l e R s m args below meth c H locs cells slots Q (F0 m (pc + 3) ls rest)) : W p l e R s m args below meth c H locs cells slots Q (F0 m pc ls (.int (-1) :: .int (toI a) :: rest)) :=
  lv_icmp_eq hexec hb0 hdg ht (fun h => kt ((toI_end ha).mp h)) (fun h => kf (fun q => h ((toI_end ha).mpr q)))
theorem yh_icmp_ne {a b : Nat} {off : Int} {tgt : Nat} (hexec : p.tables.exec = Jvm.exec) (hb0 : c.code = cc) (hdg : decode cc pc = .ok (.if_icmp .ne off, 3)) (ht : (pc : Int) + off = (tgt : Int)) (ha : a ≤ 256) (hb : b < 256) (kt : ¬ a = b → W p l e R s m args below meth c H locs cells slots Q (F0 m tgt ls rest)) (kf : a = b → W p l e R s m args below meth c H locs cells slots Q (F0 m (pc + 3) ls rest)) : W p l e R s m args below meth c H locs cells slots Q (F0 m pc ls (.int (nI b) :: .int (toI a) :: rest)) :=
  lv_icmp_ne hexec hb0 hdg ht (fun h => kt (fun q => h ((toI_eq ha hb).mpr q))) (fun h => kf ((toI_eq ha hb).mp h))
theorem yb_icmp_ne {a b : Nat} {off : Int} {tgt : Nat} (hexec : p.tables.exec = Jvm.exec) (hb0 : c.code = cc) (hdg : decode cc pc = .ok (.if_icmp .ne off, 3)) (ht : (pc : Int) + off = (tgt : Int)) (ha : a < 256) (hb : b < 128) (kt : ¬ a = b → W p l e R s m args below meth c H locs cells slots Q (F0 m tgt ls rest)) (kf : a = b → W p l e R s m args below meth c H locs cells slots Q (F0 m (pc + 3) ls rest)) : W p l e R s m args below meth c H locs cells slots Q (F0 m pc ls (.int (nI b) :: .int (sb_b a) :: rest)) :=
  lv_icmp_ne hexec hb0 hdg ht (fun h => kt (fun q => h ((sb_eqN ha hb).mpr q))) (fun h => kf ((sb_eqN ha hb).mp h))
theorem ye_icmp_ne {a : Nat} {off : Int} {tgt : Nat} (hexec : p.tables.exec = Jvm.exec) (hb0 : c.code = cc) (hdg : decode cc pc = .ok (.if_icmp .ne off, 3)) (ht : (pc : Int) + off = (tgt : Int)) (ha : a ≤ 256) (kt : ¬ a = 256 → W p l e R s m args below meth c H locs cells slots Q (F0 m tgt ls rest)) (kf : a = 256 → W p l e R s m args below meth c H locs cells slots Q (F0 m (pc + 3) ls rest)) : W p l e R s m args below meth c H locs cells slots Q (F0 m pc ls (.int (-1) :: .int (toI a) :: rest)) :=
  lv_icmp_ne hexec hb0 hdg ht (fun h => kt (fun q => h ((toI_end ha).mpr q))) (fun h => kf ((toI_end ha).mp h))
variable {D : va_G} {cl : List vw_C} {A : Nat → Prop} {a : Nat} {tys : List (ClassId × FieldType)} {ws : va_W} {H0 : Heap}
theorem yn_iald (hexec : p.tables.exec = Jvm.exec) (hb : c.code = cc) (hK : va_K D cl tys s) (hP : va_P D cl ws H) (q0 t0 : Nat) {cA : ClassId} {n : Nat} {f : Nat → Int32} (ha : ws[q0]? = some (a, .inl (cA, n, .inl f))) (ht : tys[t0]? = some (cA, .int)) {j : Nat} {x : Int32} (hx : f j = x) (hj : j < n) (hn : n < 2 ^ 31) (hdg : decode cc pc = .ok (.iaload, 1)) (kk : W p l e R s m args below meth c H locs cells slots Q (F0 m (pc + 1) ls (.int x :: rest))) : W p l e R s m args below meth c H locs cells slots Q (F0 m pc ls (.int (nI j) :: .ref a :: rest)) := by
  refine va_iald hexec hb hK hP q0 t0 ha ht (vp_in_nI hj hn) hdg ?_
  rw [nI_clamp (Nat.lt_trans hj hn), hx]
  exact kk
theorem yn_iast (hexec : p.tables.exec = Jvm.exec) (hb : c.code = cc) (hK : va_K D cl tys s) (hP : va_P D cl ws H) (hD : va_D A ws) (hS : va_S A H0 H locs) (q0 t0 : Nat) {cA : ClassId} {n : Nat} {f f1 : Nat → Int32} (ha : ws[q0]? = some (a, .inl (cA, n, .inl f))) (ht : tys[t0]? = some (cA, .int)) {j : Nat} {x : Int32} (hf : upd f j x = f1) (hj : j < n) (hn : n < 2 ^ 31) (hdg : decode cc pc = .ok (.iastore, 1)) (kk : ∀ (H1 : Heap) (locs1 : List Loc), va_P D cl (ws.set q0 (a, .inl (cA, n, .inl f1))) H1 → va_D A (ws.set q0 (a, .inl (cA, n, .inl f1))) → va_S A H0 H1 locs1 → W p l e R s m args below meth c H1 locs1 cells slots Q (F0 m (pc + 1) ls rest)) : W p l e R s m args below meth c H locs cells slots Q (F0 m pc ls (.int x :: .int (nI j) :: .ref a :: rest)) := by
  refine va_iast hexec hb hK hP hD hS q0 t0 ha ht (vp_in_nI hj hn) hdg ?_
  rw [nI_clamp (Nat.lt_trans hj hn), hf]
  exact kk
theorem yn_bald (hexec : p.tables.exec = Jvm.exec) (hb : c.code = cc) (hK : va_K D cl tys s) (hP : va_P D cl ws H) (q0 t0 : Nat) {cA : ClassId} {n : Nat} {f : Nat → Int32} (ha : ws[q0]? = some (a, .inl (cA, n, .inl f))) (ht : tys[t0]? = some (cA, .byte)) {j : Nat} {x : Int32} (hx : f j = x) (hj : j < n) (hn : n < 2 ^ 31) (hdg : decode cc pc = .ok (.baload, 1)) (kk : W p l e R s m args below meth c H locs cells slots Q (F0 m (pc + 1) ls (.int x :: rest))) : W p l e R s m args below meth c H locs cells slots Q (F0 m pc ls (.int (nI j) :: .ref a :: rest)) := by
  refine va_bald hexec hb hK hP q0 t0 ha ht (vp_in_nI hj hn) hdg ?_
  rw [nI_clamp (Nat.lt_trans hj hn), hx]
  exact kk
theorem yn_bast (hexec : p.tables.exec = Jvm.exec) (hb : c.code = cc) (hK : va_K D cl tys s) (hP : va_P D cl ws H) (hD : va_D A ws) (hS : va_S A H0 H locs) (q0 t0 : Nat) {cA : ClassId} {n : Nat} {f f1 : Nat → Int32} (ha : ws[q0]? = some (a, .inl (cA, n, .inl f))) (ht : tys[t0]? = some (cA, .byte)) {j : Nat} {x : Int32} (hf : upd f j (vp_nar .byte x) = f1) (hj : j < n) (hn : n < 2 ^ 31) (hdg : decode cc pc = .ok (.bastore, 1)) (kk : ∀ (H1 : Heap) (locs1 : List Loc), va_P D cl (ws.set q0 (a, .inl (cA, n, .inl f1))) H1 → va_D A (ws.set q0 (a, .inl (cA, n, .inl f1))) → va_S A H0 H1 locs1 → W p l e R s m args below meth c H1 locs1 cells slots Q (F0 m (pc + 1) ls rest)) : W p l e R s m args below meth c H locs cells slots Q (F0 m pc ls (.int x :: .int (nI j) :: .ref a :: rest)) := by
  refine va_bast hexec hb hK hP hD hS q0 t0 ha ht (vp_in_nI hj hn) hdg ?_
  rw [nI_clamp (Nat.lt_trans hj hn), hf]
  exact kk
end YRows
theorem y_inc (a : Nat) : nI a + Int32.ofInt 1 = nI (a + 1) := nI_1 a
theorem y_dec {a : Nat} (h : 0 < a) : nI a + Int32.ofInt (-1) = nI (a - 1) := sb_m1 h
theorem y_decS {a : Nat} (h : 1 ≤ a) : nI a - nI 1 = nI (a - 1) := pk_sub h
/-- the words of a virtual call of a method of class C -/
theorem gV {own C : String} {index maxL n fr lo : Nat} {y : MethodName} {bytes : ByteArray} {ret : Option FieldType} {R : Room} {s : State} {args : Array Value} (hg : ∀ w ∈ GT, w.before args s = true) (h1 : Cond.methodLink own index y ∈ GT) (h2 : Cond.instanceMethod y ∈ GT) (h3 : Cond.selects C y y ∈ GT) (h4 : Cond.initialized y.cls ∈ GT) (h5 : Cond.code y bytes maxL ret ∈ GT)
    (hd : y.cls ≠ "java/lang/invoke/MethodHandle" ∧ y.cls ≠ "java/lang/invoke/VarHandle" ∧ (parseMethodDescriptor y.desc).map (fun d => d.parameters.length) = some n) (hR : fr + 1 ≤ R.frames ∧ 8 + (maxL + 11) + lo ≤ R.locals) : YB R s args own index y bytes maxL ret fr lo n ∧ (Cond.instanceMethod y).before args s = true ∧ (Cond.selects C y y).before args s = true := by
  have hG : GoodIn GT (Cond.code y bytes maxL ret :: GT) := fun w hw => (List.mem_cons.mp hw).elim (fun e => by rw [e]; exact gt_in _ h5) (gt_in w)
  exact ⟨callB_of n hg hG rfl rfl rfl (hg _ h4) (hg _ h1) hd hR, hg _ h2, hg _ h3⟩
theorem gS {own : String} {index maxL n fr lo : Nat} {y : MethodName} {bytes : ByteArray} {ret : Option FieldType} {R : Room} {s : State} {args : Array Value} (hg : ∀ w ∈ GT, w.before args s = true) (h1 : Cond.methodLink own index y ∈ GT) (h2 : Cond.static y ∈ GT) (h4 : Cond.initialized y.cls ∈ GT) (h5 : Cond.code y bytes maxL ret ∈ GT)
    (hd : y.cls ≠ "java/lang/invoke/MethodHandle" ∧ y.cls ≠ "java/lang/invoke/VarHandle" ∧ (parseMethodDescriptor y.desc).map (fun d => d.parameters.length) = some n) (hR : fr + 1 ≤ R.frames ∧ 8 + (maxL + 11) + lo ≤ R.locals) : YB R s args own index y bytes maxL ret fr lo n ∧ (Cond.static y).before args s = true := by
  have hG : GoodIn GT (Cond.code y bytes maxL ret :: GT) := fun w hw => (List.mem_cons.mp hw).elim (fun e => by rw [e]; exact gt_in _ h5) (gt_in w)
  exact ⟨callB_of n hg hG rfl rfl rfl (hg _ h4) (hg _ h1) hd hR, hg _ h2⟩
/-- the worlds: a Shape, Brackets, the Reader with its text, draft and brackets -/
abbrev wS (G : gl) (h : Nat → Nat) (np no : Nat) (k c : Nat) (f o : Nat → Int32) : va_W := [(h 0, .inr (2, [.ref (h 1), .ref (h 2), .int (nI k), .int (nI c)])), (h 1, .inl (gc G 0, np, .inl f)), (h 2, .inl (gc G 0, no, .inl o))]
abbrev wSS (G : gl) (h u : Nat → Nat) (np no : Nat) (k c : Nat) (f o : Nat → Int32) (k2 c2 : Nat) (f2 o2 : Nat → Int32) : va_W := [(h 0, .inr (2, [.ref (h 1), .ref (h 2), .int (nI k), .int (nI c)])), (h 1, .inl (gc G 0, np, .inl f)), (h 2, .inl (gc G 0, no, .inl o)), (u 0, .inr (2, [.ref (u 1), .ref (u 2), .int (nI k2), .int (nI c2)])), (u 1, .inl (gc G 0, np, .inl f2)), (u 2, .inl (gc G 0, no, .inl o2))]
abbrev wR (G : gl) (h : Nat → Nat) (dg n p fk fp : Nat) (t : Nat → Nat) (np no k c : Nat) (f o : Nat → Int32) (bt : Nat) (bk bn : Nat → Int32) : va_W := [(h 0, .inr (1, [.ref (h 1), .int (nI dg), .ref (h 2), .ref (h 5), .int (nI n), .int (nI p), .int (nI fk), .int (nI fp)])), (h 1, .inl (gc G 1, 65536, .inl (fun i => sb_b (t i)))), (h 2, .inr (2, [.ref (h 3), .ref (h 4), .int (nI k), .int (nI c)])), (h 3, .inl (gc G 0, np, .inl f)), (h 4, .inl (gc G 0, no, .inl o)), (h 5, .inr (0, [.ref (h 6), .ref (h 7), .int (nI bt)])), (h 6, .inl (gc G 0, 54, .inl bk)), (h 7, .inl (gc G 0, 54, .inl bn))]
abbrev wB (G : gl) (h : Nat → Nat) (t : Nat) (f g : Nat → Int32) : va_W := [(h 0, .inr (0, [.ref (h 1), .ref (h 2), .int (nI t)])), (h 1, .inl (gc G 0, 54, .inl f)), (h 2, .inl (gc G 0, 54, .inl g))]
/-! numbers: exact rounding, and the class's and the reference's caps -/
/-- the digits between two places, W of them whole units: units, digits seen, the first behind them, whether any later one is not 0 -/
def exF (t : Nat → Nat) (W : Int) : Nat → Nat → Nat → Nat → Nat → Bool → Nat × Nat × Nat × Bool
  | 0, _, u, sn, te, mo => (u, sn, te, mo)
  | m + 1, i, u, sn, te, mo => if diN (t i) = true then (if (sn : Int) < W then exF t W m (i + 1) (10 * u + (t i - 48)) (sn + 1) te mo else if (sn : Int) = W then exF t W m (i + 1) u (sn + 1) (t i - 48) mo else exF t W m (i + 1) u (sn + 1) te (mo || decide (t i ≠ 48))) else exF t W m (i + 1) u sn te mo
def rndU (u te : Nat) (mo : Bool) : Nat := if te > 5 ∨ (te = 5 ∧ (mo = true ∨ u % 2 = 1)) then u + 1 else u
def exQ (W : Int) (s : Nat × Nat × Nat × Bool) : Nat := rndU (s.1 * 10 ^ (W - s.2.1).toNat) s.2.2.1 s.2.2.2
def exR (t : Nat → Nat) (a b : Nat) (W : Int) : Nat := exQ W (exF t W (b - a) a 0 0 0 false)
/-- the same up to the cap, or both beyond it -/
def cpr (K ue u : Nat) : Prop := (ue ≤ K → u = ue) ∧ (K < ue → K < u)
def tfU (K u : Nat) : Nat := if K < u then u else 10 * u
theorem cpr_step {K ue u : Nat} (d : Nat) (h : cpr K ue u) : cpr K (10 * ue + d) (tfU K u + d) := by
  obtain ⟨h1, h2⟩ := h
  unfold tfU
  by_cases q : ue ≤ K
  · have := h1 q
    subst this
    rw [if_neg (by omega)]
    exact ⟨fun _ => rfl, fun h => h⟩
  · have := h2 (by omega)
    rw [if_pos this]
    exact ⟨fun h => by omega, fun _ => by omega⟩
theorem cpr_ten {K ue u : Nat} (h : cpr K ue u) : cpr K (10 * ue) (tfU K u) := cpr_step 0 h
theorem cpr_rnd {K ue u : Nat} (te : Nat) (mo : Bool) (h : cpr K ue u) : cpr K (rndU ue te mo) (rndU u te mo) := by
  obtain ⟨h1, h2⟩ := h
  by_cases q : ue ≤ K
  · rw [h1 q]
    exact ⟨fun _ => rfl, fun h => h⟩
  · have := h2 (by omega)
    have a1 : ue ≤ rndU ue te mo := by unfold rndU; split <;> omega
    have a2 : u ≤ rndU u te mo := by unfold rndU; split <;> omega
    exact ⟨fun h => by omega, fun _ => by omega⟩
theorem cpr_pow {ue u : Nat} {d : Nat} (h : cpr 1000000000 (ue * 10 ^ 10) u) (hd : 10 ≤ d) : cpr 1000000000 (ue * 10 ^ d) u := by
  obtain ⟨h1, h2⟩ := h
  by_cases q : ue = 0
  · subst q
    rw [Nat.zero_mul] at h1 h2 ⊢
    exact ⟨h1, h2⟩
  · have a1 : 10 ^ 10 ≤ 10 ^ d := Nat.pow_le_pow_right (by decide) hd
    have a2 : 1 * 10 ^ d ≤ ue * 10 ^ d := Nat.mul_le_mul_right _ (by omega)
    have a3 : 1 * 10 ^ 10 ≤ ue * 10 ^ 10 := Nat.mul_le_mul_right _ (by omega)
    have a4 := h2 (by omega)
    exact ⟨fun h => by omega, fun _ => a4⟩
theorem exF_skip {t : Nat → Nat} {W : Int} {a b i u sn te : Nat} {mo : Bool} (h : i < b) (hd : diN (t i) = false) : exF t W (b - i) i u sn te mo = exF t W (b - (i + 1)) (i + 1) u sn te mo := by
  rw [show b - i = (b - (i + 1)) + 1 by omega]
  simp only [exF, hd, if_false, Bool.false_eq_true]
theorem exF_lt {t : Nat → Nat} {W : Int} {b i u sn te : Nat} {mo : Bool} (h : i < b) (hd : diN (t i) = true) (hw : (sn : Int) < W) : exF t W (b - i) i u sn te mo = exF t W (b - (i + 1)) (i + 1) (10 * u + (t i - 48)) (sn + 1) te mo := by
  rw [show b - i = (b - (i + 1)) + 1 by omega]
  simp only [exF, hd, if_true, if_pos hw]
theorem exF_eq {t : Nat → Nat} {W : Int} {b i u sn te : Nat} {mo : Bool} (h : i < b) (hd : diN (t i) = true) (hw : (sn : Int) = W) : exF t W (b - i) i u sn te mo = exF t W (b - (i + 1)) (i + 1) u (sn + 1) (t i - 48) mo := by
  rw [show b - i = (b - (i + 1)) + 1 by omega]
  simp only [exF, hd, if_true]
  rw [if_neg (by omega), if_pos hw]
theorem exF_gt {t : Nat → Nat} {W : Int} {b i u sn te : Nat} {mo : Bool} (h : i < b) (hd : diN (t i) = true) (hw : W < (sn : Int)) : exF t W (b - i) i u sn te mo = exF t W (b - (i + 1)) (i + 1) u (sn + 1) te (mo || decide (t i ≠ 48)) := by
  rw [show b - i = (b - (i + 1)) + 1 by omega]
  simp only [exF, hd, if_true]
  rw [if_neg (by omega), if_neg (by omega)]
theorem exF_done {t : Nat → Nat} {W : Int} {b i u sn te : Nat} {mo : Bool} (h : b ≤ i) : exF t W (b - i) i u sn te mo = (u, sn, te, mo) := by
  rw [show b - i = 0 by omega]; rfl
theorem lN_a1 {n : Nat} (hn : n < 2 ^ 64) : lN n &&& lN 1 = lN (n % 2) := by
  apply Int64.toBitVec_inj.mp
  rw [Int64.toBitVec_and]
  show BitVec.ofNat 64 n &&& BitVec.ofNat 64 1 = BitVec.ofNat 64 (n % 2)
  apply BitVec.eq_of_toNat_eq
  rw [BitVec.toNat_and, BitVec.toNat_ofNat, BitVec.toNat_ofNat, BitVec.toNat_ofNat, Nat.mod_eq_of_lt hn, Nat.mod_eq_of_lt (show 1 < 2 ^ 64 by decide), Nat.and_one_is_mod, Nat.mod_eq_of_lt (show n % 2 < 2 ^ 64 by omega)]
theorem lgN {a b : Nat} (ha : a < 2 ^ 63) (hb : b < 2 ^ 63) : lg_cmp (lN a) (lN b) = if b < a then 1 else if a = b then 0 else -1 := by
  unfold lg_cmp
  by_cases h : b < a
  · rw [if_pos ((pk_lLT hb ha).mpr h), if_pos h]
  · rw [if_neg (fun q => h ((pk_lLT hb ha).mp q)), if_neg h]
    by_cases h2 : a = b
    · rw [if_pos ((pk_lEQ ha hb).mpr h2), if_pos h2]
    · rw [if_neg (fun q => h2 ((pk_lEQ ha hb).mp q)), if_neg h2]
theorem di_lo {c : Nat} (h : diN c = true) : 48 ≤ c ∧ c ≤ 57 := of_decide_eq_true h
theorem sb_dig : ∀ c, c < 256 → diN c = true → sb_b c - nI 48 = nI (c - 48) ∧ sb_b c = nI c := by decide +kernel
theorem le_toI {a : Nat} {w : Int32} (ha : a < 2 ^ 31) : w ≤ nI a ↔ w.toInt ≤ (a : Int) := by rw [Int32.le_iff_toInt_le, nI_toInt ha]
theorem eq_toI {a : Nat} {w : Int32} (ha : a < 2 ^ 31) : nI a = w ↔ (a : Int) = w.toInt := by rw [← Int32.toInt_inj, nI_toInt ha]
theorem bz_or (a b : Bool) : bz a ||| bz b = bz (a || b) := by cases a <;> cases b <;> decide
theorem i2lN {a : Nat} (h : a < 2 ^ 31) : (nI a).toInt64 = lN a := nI_l h

section YLong
variable {p : Program} {l : Launch} {e : Env} {R : Room} {s : State} {m : MethodId} {args : Array Value} {below : List Frame} {meth : Method} {c : Code} {H : Heap} {locs : List Loc} {cells slots : Nat} {Q : State → Prop} {cc : ByteArray} {pc : Nat} {ls : Array Slot} {rest : List Value}
theorem yl_eq {a b : Nat} {off : Int} {tgt : Nat} (hexec : p.tables.exec = Jvm.exec) (hb0 : c.code = cc) (hdg : decode cc pc = .ok (.lcmp, 1)) (hdg2 : decode cc (pc + 1) = .ok (.ifCond .eq off, 3)) (ht : ((pc + 1 : Nat) : Int) + off = (tgt : Int)) (ha : a < 2 ^ 63) (hb : b < 2 ^ 63) (kt : a = b → W p l e R s m args below meth c H locs cells slots Q (F0 m tgt ls rest)) (kf : ¬ a = b → W p l e R s m args below meth c H locs cells slots Q (F0 m (pc + 1 + 3) ls rest)) : W p l e R s m args below meth c H locs cells slots Q (F0 m pc ls (.long (lN b) :: .long (lN a) :: rest)) := by
  refine W.lcmp hexec hb0 hdg ?_
  rw [lgN ha hb]
  refine lv_if_eq hexec hb0 hdg2 ht (fun h => kt ?_) (fun h => kf ?_) <;> (rcases Nat.lt_trichotomy a b with q | q | q <;> (first | rw [if_neg (show ¬ b < a by omega), if_neg (show ¬ a = b by omega)] at h | rw [if_neg (show ¬ b < a by omega), if_pos q] at h | rw [if_pos q] at h) <;> first | omega | exact absurd h (by decide) | exact absurd (by decide) h)
theorem yl_ne {a b : Nat} {off : Int} {tgt : Nat} (hexec : p.tables.exec = Jvm.exec) (hb0 : c.code = cc) (hdg : decode cc pc = .ok (.lcmp, 1)) (hdg2 : decode cc (pc + 1) = .ok (.ifCond .ne off, 3)) (ht : ((pc + 1 : Nat) : Int) + off = (tgt : Int)) (ha : a < 2 ^ 63) (hb : b < 2 ^ 63) (kt : ¬ a = b → W p l e R s m args below meth c H locs cells slots Q (F0 m tgt ls rest)) (kf : a = b → W p l e R s m args below meth c H locs cells slots Q (F0 m (pc + 1 + 3) ls rest)) : W p l e R s m args below meth c H locs cells slots Q (F0 m pc ls (.long (lN b) :: .long (lN a) :: rest)) := by
  refine W.lcmp hexec hb0 hdg ?_
  rw [lgN ha hb]
  refine lv_if_ne hexec hb0 hdg2 ht (fun h => kt ?_) (fun h => kf ?_) <;> (rcases Nat.lt_trichotomy a b with q | q | q <;> (first | rw [if_neg (show ¬ b < a by omega), if_neg (show ¬ a = b by omega)] at h | rw [if_neg (show ¬ b < a by omega), if_pos q] at h | rw [if_pos q] at h) <;> first | omega | exact absurd h (by decide) | exact absurd (by decide) h)
theorem yl_lt {a b : Nat} {off : Int} {tgt : Nat} (hexec : p.tables.exec = Jvm.exec) (hb0 : c.code = cc) (hdg : decode cc pc = .ok (.lcmp, 1)) (hdg2 : decode cc (pc + 1) = .ok (.ifCond .lt off, 3)) (ht : ((pc + 1 : Nat) : Int) + off = (tgt : Int)) (ha : a < 2 ^ 63) (hb : b < 2 ^ 63) (kt : a < b → W p l e R s m args below meth c H locs cells slots Q (F0 m tgt ls rest)) (kf : b ≤ a → W p l e R s m args below meth c H locs cells slots Q (F0 m (pc + 1 + 3) ls rest)) : W p l e R s m args below meth c H locs cells slots Q (F0 m pc ls (.long (lN b) :: .long (lN a) :: rest)) := by
  refine W.lcmp hexec hb0 hdg ?_
  rw [lgN ha hb]
  refine lv_if_lt hexec hb0 hdg2 ht (fun h => kt ?_) (fun h => kf ?_) <;> (rcases Nat.lt_trichotomy a b with q | q | q <;> (first | rw [if_neg (show ¬ b < a by omega), if_neg (show ¬ a = b by omega)] at h | rw [if_neg (show ¬ b < a by omega), if_pos q] at h | rw [if_pos q] at h) <;> first | omega | exact absurd h (by decide) | exact absurd (by decide) h)
theorem yl_ge {a b : Nat} {off : Int} {tgt : Nat} (hexec : p.tables.exec = Jvm.exec) (hb0 : c.code = cc) (hdg : decode cc pc = .ok (.lcmp, 1)) (hdg2 : decode cc (pc + 1) = .ok (.ifCond .ge off, 3)) (ht : ((pc + 1 : Nat) : Int) + off = (tgt : Int)) (ha : a < 2 ^ 63) (hb : b < 2 ^ 63) (kt : b ≤ a → W p l e R s m args below meth c H locs cells slots Q (F0 m tgt ls rest)) (kf : a < b → W p l e R s m args below meth c H locs cells slots Q (F0 m (pc + 1 + 3) ls rest)) : W p l e R s m args below meth c H locs cells slots Q (F0 m pc ls (.long (lN b) :: .long (lN a) :: rest)) := by
  refine W.lcmp hexec hb0 hdg ?_
  rw [lgN ha hb]
  refine lv_if_ge hexec hb0 hdg2 ht (fun h => kt ?_) (fun h => kf ?_) <;> (rcases Nat.lt_trichotomy a b with q | q | q <;> (first | rw [if_neg (show ¬ b < a by omega), if_neg (show ¬ a = b by omega)] at h | rw [if_neg (show ¬ b < a by omega), if_pos q] at h | rw [if_pos q] at h) <;> first | omega | exact absurd h (by decide) | exact absurd (by decide) h)
theorem yl_gt {a b : Nat} {off : Int} {tgt : Nat} (hexec : p.tables.exec = Jvm.exec) (hb0 : c.code = cc) (hdg : decode cc pc = .ok (.lcmp, 1)) (hdg2 : decode cc (pc + 1) = .ok (.ifCond .gt off, 3)) (ht : ((pc + 1 : Nat) : Int) + off = (tgt : Int)) (ha : a < 2 ^ 63) (hb : b < 2 ^ 63) (kt : b < a → W p l e R s m args below meth c H locs cells slots Q (F0 m tgt ls rest)) (kf : a ≤ b → W p l e R s m args below meth c H locs cells slots Q (F0 m (pc + 1 + 3) ls rest)) : W p l e R s m args below meth c H locs cells slots Q (F0 m pc ls (.long (lN b) :: .long (lN a) :: rest)) := by
  refine W.lcmp hexec hb0 hdg ?_
  rw [lgN ha hb]
  refine lv_if_gt hexec hb0 hdg2 ht (fun h => kt ?_) (fun h => kf ?_) <;> (rcases Nat.lt_trichotomy a b with q | q | q <;> (first | rw [if_neg (show ¬ b < a by omega), if_neg (show ¬ a = b by omega)] at h | rw [if_neg (show ¬ b < a by omega), if_pos q] at h | rw [if_pos q] at h) <;> first | omega | exact absurd h (by decide) | exact absurd (by decide) h)
theorem yl_le {a b : Nat} {off : Int} {tgt : Nat} (hexec : p.tables.exec = Jvm.exec) (hb0 : c.code = cc) (hdg : decode cc pc = .ok (.lcmp, 1)) (hdg2 : decode cc (pc + 1) = .ok (.ifCond .le off, 3)) (ht : ((pc + 1 : Nat) : Int) + off = (tgt : Int)) (ha : a < 2 ^ 63) (hb : b < 2 ^ 63) (kt : a ≤ b → W p l e R s m args below meth c H locs cells slots Q (F0 m tgt ls rest)) (kf : b < a → W p l e R s m args below meth c H locs cells slots Q (F0 m (pc + 1 + 3) ls rest)) : W p l e R s m args below meth c H locs cells slots Q (F0 m pc ls (.long (lN b) :: .long (lN a) :: rest)) := by
  refine W.lcmp hexec hb0 hdg ?_
  rw [lgN ha hb]
  refine lv_if_le hexec hb0 hdg2 ht (fun h => kt ?_) (fun h => kf ?_) <;> (rcases Nat.lt_trichotomy a b with q | q | q <;> (first | rw [if_neg (show ¬ b < a by omega), if_neg (show ¬ a = b by omega)] at h | rw [if_neg (show ¬ b < a by omega), if_pos q] at h | rw [if_pos q] at h) <;> first | omega | exact absurd h (by decide) | exact absurd (by decide) h)
end YLong
end
section
set_option maxHeartbeats 4000000 in
set_option maxRecDepth 100000 in
theorem c_B_start (l : Launch) (G : gl) (h : Nat → Nat) (t : Nat) (f : Nat → Int32) (g : Nat → Int32) (x : Int32)  : YC l G y_B_start k_B_start 2 (Option.none : Option FieldType) 0 0 [.ref (h 0), .int x] (wB G h t f g) (fun v w => v = none ∧ w = wB G h 0 (upd f 0 (nI 0)) (upd g 0 x)) (fun _ _ => False) := by
  refine yc_of (by decide) ?_
  intro pg ev sx mm bl mt cd A C0 hP hD
  obtain ⟨hx, hb, hrt, hml, hown, hg, hlocks, hxt, hE, hK, hA, hmn⟩ := C0
  have hS : va_S A sx.heap sx.heap [] := va_S.rf
  have hl := lv_entry ([.ref (h 0), .int x]) (n := 2) (Nat.le_of_ble_eq_true rfl)
  rw [lg_entry_eq]
  generalize (lg_sl ([.ref (h 0), .int x]) ++ List.replicate (2 - (lg_sl ([.ref (h 0), .int x])).length) Slot.unset).toArray = ls at hl ⊢
  have hl : lv_has ls 2 [(0, .ref (h 0)), (1, .int x)] := hl
  obtain ⟨H, hH⟩ : ∃ H, H = sx.heap := ⟨_, rfl⟩
  rw [← hH] at hP
  have hS : va_S A sx.heap H [] := by rw [hH]; exact hS
  suffices h9 : W pg l ev (yR 0 0) sx mm _ bl mt cd H [] 0 0 (yMQ bl G A _ _ _ _ sx) (F0 mm 0 ls []) by rw [hH] at h9; exact h9
  obtain ⟨locs, hlo⟩ : ∃ locs : List Loc, locs = [] := ⟨_, rfl⟩
  rw [← hlo] at hS ⊢
  refine lv_aload_n hx hb d_B_start_0 rfl (lv_at hl 0 rfl) ?_
  refine lv_iconst (v := nI 0) hx hb d_B_start_1 (by decide) ?_
  refine va_put (D := gD G) (ci := 0) (v := .int (nI 0)) (ty := .int) (C := "WordShapes$Brackets") (T := TB) (N := 3) hx hb hg iw_B ft_B fo_B nm_B hown hK hP hD hS 0 rfl rfl 2 (by decide) (hg _ tk_75) (fun _ h9 => h9) rfl (by decide +kernel) (rfl) (rfl) (Nat.le_of_ble_eq_true rfl) d_B_start_2 (fun H locs hP hD hS => ?_)
  have hP : va_P (gD G) vwC (wB G h 0 f g) H := hP
  have hD : va_D A (wB G h 0 f g) := hD
  refine lv_aload_n hx hb d_B_start_5 rfl (lv_at hl 0 rfl) ?_
  refine va_get (D := gD G) (ci := 0) (v := .ref (h 1)) (C := "WordShapes$Brackets") (T := TB) (N := 3) hx hb hg iw_B hown hK hP 0 rfl rfl 0 (by decide) (hg _ tk_73) (fun _ h9 => h9) rfl d_B_start_6 ?_
  refine lv_iconst (v := nI 0) hx hb d_B_start_9 (by decide) ?_
  refine lv_iconst (v := nI 0) hx hb d_B_start_10 (by decide) ?_
  refine yn_iast hx hb hK hP hD hS 1 0 rfl rfl (j := 0) (x := nI 0) (f1 := upd f 0 (nI 0)) (rfl) (by omega) (by omega) d_B_start_11 (fun H locs hP hD hS => ?_)
  have hP : va_P (gD G) vwC (wB G h 0 (upd f 0 (nI 0)) g) H := hP
  have hD : va_D A (wB G h 0 (upd f 0 (nI 0)) g) := hD
  refine lv_aload_n hx hb d_B_start_12 rfl (lv_at hl 0 rfl) ?_
  refine va_get (D := gD G) (ci := 0) (v := .ref (h 2)) (C := "WordShapes$Brackets") (T := TB) (N := 3) hx hb hg iw_B hown hK hP 0 rfl rfl 1 (by decide) (hg _ tk_74) (fun _ h9 => h9) rfl d_B_start_13 ?_
  refine lv_iconst (v := nI 0) hx hb d_B_start_16 (by decide) ?_
  refine lv_iload_n hx hb d_B_start_17 rfl (lv_at hl 1 rfl) ?_
  refine yn_iast hx hb hK hP hD hS 2 0 rfl rfl (j := 0) (x := x) (f1 := upd g 0 x) (rfl) (by omega) (by omega) d_B_start_18 (fun H locs hP hD hS => ?_)
  have hP : va_P (gD G) vwC (wB G h 0 (upd f 0 (nI 0)) (upd g 0 x)) H := hP
  have hD : va_D A (wB G h 0 (upd f 0 (nI 0)) (upd g 0 x)) := hD
  exact yr_v (ws := wB G h 0 (upd f 0 (nI 0)) (upd g 0 x)) hx hb hrt hlocks (⟨rfl, rfl⟩) rfl hK hP hD hS d_B_start_19
set_option maxHeartbeats 4000000 in
set_option maxRecDepth 100000 in
theorem c_B_open (l : Launch) (G : gl) (h : Nat → Nat) (t : Nat) (f : Nat → Int32) (g : Nat → Int32) (kd : Int32) (x : Int32) (ht : t < 53) : YC l G y_B_open k_B_open 3 (Option.none : Option FieldType) 0 0 [.ref (h 0), .int kd, .int x] (wB G h t f g) (fun v w => v = none ∧ w = wB G h (t + 1) (upd f (t + 1) kd) (upd g (t + 1) x)) (fun _ _ => False) := by
  refine yc_of (by decide) ?_
  intro pg ev sx mm bl mt cd A C0 hP hD
  obtain ⟨hx, hb, hrt, hml, hown, hg, hlocks, hxt, hE, hK, hA, hmn⟩ := C0
  have hS : va_S A sx.heap sx.heap [] := va_S.rf
  have hl := lv_entry ([.ref (h 0), .int kd, .int x]) (n := 3) (Nat.le_of_ble_eq_true rfl)
  rw [lg_entry_eq]
  generalize (lg_sl ([.ref (h 0), .int kd, .int x]) ++ List.replicate (3 - (lg_sl ([.ref (h 0), .int kd, .int x])).length) Slot.unset).toArray = ls at hl ⊢
  have hl : lv_has ls 3 [(0, .ref (h 0)), (1, .int kd), (2, .int x)] := hl
  obtain ⟨H, hH⟩ : ∃ H, H = sx.heap := ⟨_, rfl⟩
  rw [← hH] at hP
  have hS : va_S A sx.heap H [] := by rw [hH]; exact hS
  suffices h9 : W pg l ev (yR 0 0) sx mm _ bl mt cd H [] 0 0 (yMQ bl G A _ _ _ _ sx) (F0 mm 0 ls []) by rw [hH] at h9; exact h9
  obtain ⟨locs, hlo⟩ : ∃ locs : List Loc, locs = [] := ⟨_, rfl⟩
  rw [← hlo] at hS ⊢
  refine lv_aload_n hx hb d_B_open_0 rfl (lv_at hl 0 rfl) ?_
  refine va_get (D := gD G) (ci := 0) (v := .int (nI t)) (C := "WordShapes$Brackets") (T := TB) (N := 3) hx hb hg iw_B hown hK hP 0 rfl rfl 2 (by decide) (hg _ tk_75) (fun _ h9 => h9) rfl d_B_open_1 ?_
  refine lv_bipush (v := nI 53) hx hb d_B_open_4 (by decide) ?_
  refine yn_icmp_ge (a := t) (b := 53) (tgt := 39) hx hb d_B_open_6 (by decide) (by omega) (by omega) (fun c6 => ?_) (fun c6 => ?_)
  · skip
    exact absurd c6 (by omega)
  · skip
    refine lv_aload_n hx hb d_B_open_9 rfl (lv_at hl 0 rfl) ?_
    refine lv_dup hx hb d_B_open_10 rfl ?_
    refine va_get (D := gD G) (ci := 0) (v := .int (nI t)) (C := "WordShapes$Brackets") (T := TB) (N := 3) hx hb hg iw_B hown hK hP 0 rfl rfl 2 (by decide) (hg _ tk_75) (fun _ h9 => h9) rfl d_B_open_11 ?_
    refine lv_iconst (v := nI 1) hx hb d_B_open_14 (by decide) ?_
    refine lv_iadd hx hb d_B_open_15 ?_
    refine y_eqi (nI_add _ _) ?_
    refine va_put (D := gD G) (ci := 0) (v := .int (nI (t + 1))) (ty := .int) (C := "WordShapes$Brackets") (T := TB) (N := 3) hx hb hg iw_B ft_B fo_B nm_B hown hK hP hD hS 0 rfl rfl 2 (by decide) (hg _ tk_75) (fun _ h9 => h9) rfl (by decide +kernel) (rfl) (rfl) (Nat.le_of_ble_eq_true rfl) d_B_open_16 (fun H locs hP hD hS => ?_)
    have hP : va_P (gD G) vwC (wB G h (t + 1) f g) H := hP
    have hD : va_D A (wB G h (t + 1) f g) := hD
    refine lv_aload_n hx hb d_B_open_19 rfl (lv_at hl 0 rfl) ?_
    refine va_get (D := gD G) (ci := 0) (v := .ref (h 1)) (C := "WordShapes$Brackets") (T := TB) (N := 3) hx hb hg iw_B hown hK hP 0 rfl rfl 0 (by decide) (hg _ tk_73) (fun _ h9 => h9) rfl d_B_open_20 ?_
    refine lv_aload_n hx hb d_B_open_23 rfl (lv_at hl 0 rfl) ?_
    refine va_get (D := gD G) (ci := 0) (v := .int (nI (t + 1))) (C := "WordShapes$Brackets") (T := TB) (N := 3) hx hb hg iw_B hown hK hP 0 rfl rfl 2 (by decide) (hg _ tk_75) (fun _ h9 => h9) rfl d_B_open_24 ?_
    refine lv_iload_n hx hb d_B_open_27 rfl (lv_at hl 1 rfl) ?_
    refine yn_iast hx hb hK hP hD hS 1 0 rfl rfl (j := t + 1) (x := kd) (f1 := upd f (t + 1) kd) (rfl) (by omega) (by omega) d_B_open_28 (fun H locs hP hD hS => ?_)
    have hP : va_P (gD G) vwC (wB G h (t + 1) (upd f (t + 1) kd) g) H := hP
    have hD : va_D A (wB G h (t + 1) (upd f (t + 1) kd) g) := hD
    refine lv_aload_n hx hb d_B_open_29 rfl (lv_at hl 0 rfl) ?_
    refine va_get (D := gD G) (ci := 0) (v := .ref (h 2)) (C := "WordShapes$Brackets") (T := TB) (N := 3) hx hb hg iw_B hown hK hP 0 rfl rfl 1 (by decide) (hg _ tk_74) (fun _ h9 => h9) rfl d_B_open_30 ?_
    refine lv_aload_n hx hb d_B_open_33 rfl (lv_at hl 0 rfl) ?_
    refine va_get (D := gD G) (ci := 0) (v := .int (nI (t + 1))) (C := "WordShapes$Brackets") (T := TB) (N := 3) hx hb hg iw_B hown hK hP 0 rfl rfl 2 (by decide) (hg _ tk_75) (fun _ h9 => h9) rfl d_B_open_34 ?_
    refine lv_iload_n hx hb d_B_open_37 rfl (lv_at hl 2 rfl) ?_
    refine yn_iast hx hb hK hP hD hS 2 0 rfl rfl (j := t + 1) (x := x) (f1 := upd g (t + 1) x) (rfl) (by omega) (by omega) d_B_open_38 (fun H locs hP hD hS => ?_)
    have hP : va_P (gD G) vwC (wB G h (t + 1) (upd f (t + 1) kd) (upd g (t + 1) x)) H := hP
    have hD : va_D A (wB G h (t + 1) (upd f (t + 1) kd) (upd g (t + 1) x)) := hD
    exact yr_v (ws := wB G h (t + 1) (upd f (t + 1) kd) (upd g (t + 1) x)) hx hb hrt hlocks (⟨rfl, rfl⟩) rfl hK hP hD hS d_B_open_39
set_option maxHeartbeats 4000000 in
set_option maxRecDepth 100000 in
theorem c_B_close (l : Launch) (G : gl) (h : Nat → Nat) (t : Nat) (f : Nat → Int32) (g : Nat → Int32)  (ht : 0 < t) (h54 : t < 54) : YC l G y_B_close k_B_close 1 (Option.none : Option FieldType) 0 0 [.ref (h 0)] (wB G h t f g) (fun v w => v = none ∧ w = wB G h (t - 1) f g) (fun _ _ => False) := by
  refine yc_of (by decide) ?_
  intro pg ev sx mm bl mt cd A C0 hP hD
  obtain ⟨hx, hb, hrt, hml, hown, hg, hlocks, hxt, hE, hK, hA, hmn⟩ := C0
  have hS : va_S A sx.heap sx.heap [] := va_S.rf
  have hl := lv_entry ([.ref (h 0)]) (n := 1) (Nat.le_of_ble_eq_true rfl)
  rw [lg_entry_eq]
  generalize (lg_sl ([.ref (h 0)]) ++ List.replicate (1 - (lg_sl ([.ref (h 0)])).length) Slot.unset).toArray = ls at hl ⊢
  have hl : lv_has ls 1 [(0, .ref (h 0))] := hl
  obtain ⟨H, hH⟩ : ∃ H, H = sx.heap := ⟨_, rfl⟩
  rw [← hH] at hP
  have hS : va_S A sx.heap H [] := by rw [hH]; exact hS
  suffices h9 : W pg l ev (yR 0 0) sx mm _ bl mt cd H [] 0 0 (yMQ bl G A _ _ _ _ sx) (F0 mm 0 ls []) by rw [hH] at h9; exact h9
  obtain ⟨locs, hlo⟩ : ∃ locs : List Loc, locs = [] := ⟨_, rfl⟩
  rw [← hlo] at hS ⊢
  refine lv_aload_n hx hb d_B_close_0 rfl (lv_at hl 0 rfl) ?_
  refine va_get (D := gD G) (ci := 0) (v := .int (nI t)) (C := "WordShapes$Brackets") (T := TB) (N := 3) hx hb hg iw_B hown hK hP 0 rfl rfl 2 (by decide) (hg _ tk_75) (fun _ h9 => h9) rfl d_B_close_1 ?_
  refine yn_if_le (a := t) (tgt := 17) hx hb d_B_close_4 (by decide) (by omega) (fun c4 => ?_) (fun c4 => ?_)
  · skip
    exact absurd c4 (by omega)
  · skip
    refine lv_aload_n hx hb d_B_close_7 rfl (lv_at hl 0 rfl) ?_
    refine lv_dup hx hb d_B_close_8 rfl ?_
    refine va_get (D := gD G) (ci := 0) (v := .int (nI t)) (C := "WordShapes$Brackets") (T := TB) (N := 3) hx hb hg iw_B hown hK hP 0 rfl rfl 2 (by decide) (hg _ tk_75) (fun _ h9 => h9) rfl d_B_close_9 ?_
    refine lv_iconst (v := nI 1) hx hb d_B_close_12 (by decide) ?_
    refine lv_isub hx hb d_B_close_13 ?_
    refine y_eqi (pk_sub (by omega)) ?_
    refine va_put (D := gD G) (ci := 0) (v := .int (nI (t - 1))) (ty := .int) (C := "WordShapes$Brackets") (T := TB) (N := 3) hx hb hg iw_B ft_B fo_B nm_B hown hK hP hD hS 0 rfl rfl 2 (by decide) (hg _ tk_75) (fun _ h9 => h9) rfl (by decide +kernel) (rfl) (rfl) (Nat.le_of_ble_eq_true rfl) d_B_close_14 (fun H locs hP hD hS => ?_)
    have hP : va_P (gD G) vwC (wB G h (t - 1) f g) H := hP
    have hD : va_D A (wB G h (t - 1) f g) := hD
    exact yr_v (ws := wB G h (t - 1) f g) hx hb hrt hlocks (⟨rfl, rfl⟩) rfl hK hP hD hS d_B_close_17
set_option maxHeartbeats 4000000 in
set_option maxRecDepth 100000 in
theorem c_B_kind (l : Launch) (G : gl) (h : Nat → Nat) (t : Nat) (f : Nat → Int32) (g : Nat → Int32)  (ht : t < 54) : YC l G y_B_kind k_B_kind 1 (Option.some FieldType.int) 0 0 [.ref (h 0)] (wB G h t f g) (fun v w => v = some (.int (f t)) ∧ w = wB G h t f g) (fun _ _ => False) := by
  refine yc_of (by decide) ?_
  intro pg ev sx mm bl mt cd A C0 hP hD
  obtain ⟨hx, hb, hrt, hml, hown, hg, hlocks, hxt, hE, hK, hA, hmn⟩ := C0
  have hS : va_S A sx.heap sx.heap [] := va_S.rf
  have hl := lv_entry ([.ref (h 0)]) (n := 1) (Nat.le_of_ble_eq_true rfl)
  rw [lg_entry_eq]
  generalize (lg_sl ([.ref (h 0)]) ++ List.replicate (1 - (lg_sl ([.ref (h 0)])).length) Slot.unset).toArray = ls at hl ⊢
  have hl : lv_has ls 1 [(0, .ref (h 0))] := hl
  obtain ⟨H, hH⟩ : ∃ H, H = sx.heap := ⟨_, rfl⟩
  rw [← hH] at hP
  have hS : va_S A sx.heap H [] := by rw [hH]; exact hS
  suffices h9 : W pg l ev (yR 0 0) sx mm _ bl mt cd H [] 0 0 (yMQ bl G A _ _ _ _ sx) (F0 mm 0 ls []) by rw [hH] at h9; exact h9
  obtain ⟨locs, hlo⟩ : ∃ locs : List Loc, locs = [] := ⟨_, rfl⟩
  rw [← hlo] at hS ⊢
  refine lv_aload_n hx hb d_B_kind_0 rfl (lv_at hl 0 rfl) ?_
  refine va_get (D := gD G) (ci := 0) (v := .ref (h 1)) (C := "WordShapes$Brackets") (T := TB) (N := 3) hx hb hg iw_B hown hK hP 0 rfl rfl 0 (by decide) (hg _ tk_73) (fun _ h9 => h9) rfl d_B_kind_1 ?_
  refine lv_aload_n hx hb d_B_kind_4 rfl (lv_at hl 0 rfl) ?_
  refine va_get (D := gD G) (ci := 0) (v := .int (nI t)) (C := "WordShapes$Brackets") (T := TB) (N := 3) hx hb hg iw_B hown hK hP 0 rfl rfl 2 (by decide) (hg _ tk_75) (fun _ h9 => h9) rfl d_B_kind_5 ?_
  refine yn_iald hx hb hK hP 1 0 rfl rfl (j := t) (x := f t) (rfl) (by omega) (by omega) d_B_kind_8 ?_
  exact yr_i (ws := wB G h t f g) hx hb hrt hlocks (⟨rfl, rfl⟩) rfl hK hP hD hS d_B_kind_9
set_option maxHeartbeats 4000000 in
set_option maxRecDepth 100000 in
theorem c_B_number (l : Launch) (G : gl) (h : Nat → Nat) (t : Nat) (f : Nat → Int32) (g : Nat → Int32)  (ht : t < 54) : YC l G y_B_number k_B_number 1 (Option.some FieldType.int) 0 0 [.ref (h 0)] (wB G h t f g) (fun v w => v = some (.int (g t)) ∧ w = wB G h t f g) (fun _ _ => False) := by
  refine yc_of (by decide) ?_
  intro pg ev sx mm bl mt cd A C0 hP hD
  obtain ⟨hx, hb, hrt, hml, hown, hg, hlocks, hxt, hE, hK, hA, hmn⟩ := C0
  have hS : va_S A sx.heap sx.heap [] := va_S.rf
  have hl := lv_entry ([.ref (h 0)]) (n := 1) (Nat.le_of_ble_eq_true rfl)
  rw [lg_entry_eq]
  generalize (lg_sl ([.ref (h 0)]) ++ List.replicate (1 - (lg_sl ([.ref (h 0)])).length) Slot.unset).toArray = ls at hl ⊢
  have hl : lv_has ls 1 [(0, .ref (h 0))] := hl
  obtain ⟨H, hH⟩ : ∃ H, H = sx.heap := ⟨_, rfl⟩
  rw [← hH] at hP
  have hS : va_S A sx.heap H [] := by rw [hH]; exact hS
  suffices h9 : W pg l ev (yR 0 0) sx mm _ bl mt cd H [] 0 0 (yMQ bl G A _ _ _ _ sx) (F0 mm 0 ls []) by rw [hH] at h9; exact h9
  obtain ⟨locs, hlo⟩ : ∃ locs : List Loc, locs = [] := ⟨_, rfl⟩
  rw [← hlo] at hS ⊢
  refine lv_aload_n hx hb d_B_number_0 rfl (lv_at hl 0 rfl) ?_
  refine va_get (D := gD G) (ci := 0) (v := .ref (h 2)) (C := "WordShapes$Brackets") (T := TB) (N := 3) hx hb hg iw_B hown hK hP 0 rfl rfl 1 (by decide) (hg _ tk_74) (fun _ h9 => h9) rfl d_B_number_1 ?_
  refine lv_aload_n hx hb d_B_number_4 rfl (lv_at hl 0 rfl) ?_
  refine va_get (D := gD G) (ci := 0) (v := .int (nI t)) (C := "WordShapes$Brackets") (T := TB) (N := 3) hx hb hg iw_B hown hK hP 0 rfl rfl 2 (by decide) (hg _ tk_75) (fun _ h9 => h9) rfl d_B_number_5 ?_
  refine yn_iald hx hb hK hP 2 0 rfl rfl (j := t) (x := g t) (rfl) (by omega) (by omega) d_B_number_8 ?_
  exact yr_i (ws := wB G h t f g) hx hb hrt hlocks (⟨rfl, rfl⟩) rfl hK hP hD hS d_B_number_9
set_option maxHeartbeats 4000000 in
set_option maxRecDepth 100000 in
theorem c_B_lessOne (l : Launch) (G : gl) (h : Nat → Nat) (t : Nat) (f : Nat → Int32) (g : Nat → Int32)  (ht : t < 54) : YC l G y_B_lessOne k_B_lessOne 1 (Option.none : Option FieldType) 0 0 [.ref (h 0)] (wB G h t f g) (fun v w => v = none ∧ w = wB G h t f (upd g t (g t - 1))) (fun _ _ => False) := by
  refine yc_of (by decide) ?_
  intro pg ev sx mm bl mt cd A C0 hP hD
  obtain ⟨hx, hb, hrt, hml, hown, hg, hlocks, hxt, hE, hK, hA, hmn⟩ := C0
  have hS : va_S A sx.heap sx.heap [] := va_S.rf
  have hl := lv_entry ([.ref (h 0)]) (n := 1) (Nat.le_of_ble_eq_true rfl)
  rw [lg_entry_eq]
  generalize (lg_sl ([.ref (h 0)]) ++ List.replicate (1 - (lg_sl ([.ref (h 0)])).length) Slot.unset).toArray = ls at hl ⊢
  have hl : lv_has ls 1 [(0, .ref (h 0))] := hl
  obtain ⟨H, hH⟩ : ∃ H, H = sx.heap := ⟨_, rfl⟩
  rw [← hH] at hP
  have hS : va_S A sx.heap H [] := by rw [hH]; exact hS
  suffices h9 : W pg l ev (yR 0 0) sx mm _ bl mt cd H [] 0 0 (yMQ bl G A _ _ _ _ sx) (F0 mm 0 ls []) by rw [hH] at h9; exact h9
  obtain ⟨locs, hlo⟩ : ∃ locs : List Loc, locs = [] := ⟨_, rfl⟩
  rw [← hlo] at hS ⊢
  refine lv_aload_n hx hb d_B_lessOne_0 rfl (lv_at hl 0 rfl) ?_
  refine va_get (D := gD G) (ci := 0) (v := .ref (h 2)) (C := "WordShapes$Brackets") (T := TB) (N := 3) hx hb hg iw_B hown hK hP 0 rfl rfl 1 (by decide) (hg _ tk_74) (fun _ h9 => h9) rfl d_B_lessOne_1 ?_
  refine lv_aload_n hx hb d_B_lessOne_4 rfl (lv_at hl 0 rfl) ?_
  refine va_get (D := gD G) (ci := 0) (v := .int (nI t)) (C := "WordShapes$Brackets") (T := TB) (N := 3) hx hb hg iw_B hown hK hP 0 rfl rfl 2 (by decide) (hg _ tk_75) (fun _ h9 => h9) rfl d_B_lessOne_5 ?_
  refine lv_dup2_11 hx hb d_B_lessOne_8 rfl rfl ?_
  refine yn_iald hx hb hK hP 2 0 rfl rfl (j := t) (x := g t) (rfl) (by omega) (by omega) d_B_lessOne_9 ?_
  refine lv_iconst (v := nI 1) hx hb d_B_lessOne_10 (by decide) ?_
  refine lv_isub hx hb d_B_lessOne_11 ?_
  refine yn_iast hx hb hK hP hD hS 2 0 rfl rfl (j := t) (x := (g t) - (nI 1)) (f1 := upd g t ((g t) - (nI 1))) (rfl) (by omega) (by omega) d_B_lessOne_12 (fun H locs hP hD hS => ?_)
  have hP : va_P (gD G) vwC (wB G h t f (upd g t ((g t) - (nI 1)))) H := hP
  have hD : va_D A (wB G h t f (upd g t ((g t) - (nI 1)))) := hD
  exact yr_v (ws := wB G h t f (upd g t ((g t) - (nI 1)))) hx hb hrt hlocks (⟨rfl, rfl⟩) rfl hK hP hD hS d_B_lessOne_13
end
section
def bmp (f : Nat → Int32) (k : Nat) (i : Int32) : Nat → Int32 := if i < 0 then f else if nI k ≤ i then f else upd f i.toNatClampNeg (f i.toNatClampNeg + nI 1)
theorem bmp_neg {f : Nat → Int32} {k : Nat} {i : Int32} (h : i < 0) : bmp f k i = f := if_pos h
theorem bmp_ge {f : Nat → Int32} {k : Nat} {i : Int32} (h : nI k ≤ i) : bmp f k i = f := by
  unfold bmp
  by_cases q : i < 0
  · rw [if_pos q]
  · rw [if_neg q, if_pos h]
theorem bmp_nI {f : Nat → Int32} {k j : Nat} (h : j < k) (hk : k < 2 ^ 31) : bmp f k (nI j) = upd f j (f j + nI 1) := by
  unfold bmp
  rw [if_neg (nI_pos (by omega)), if_neg (nI_ge h hk), nI_clamp (by omega)]
/-- the first n places from another row -/
def tkF (f f2 : Nat → Int32) (n : Nat) : Nat → Int32 := fun j => if j < n then f2 j else f j
theorem tkF_0 (f f2 : Nat → Int32) : tkF f f2 0 = f := by funext j; simp [tkF]
theorem tkF_s (f f2 : Nat → Int32) (n : Nat) : upd (tkF f f2 n) n (f2 n) = tkF f f2 (n + 1) := by
  funext j
  by_cases h : j = n
  · subst h; simp [upd, tkF]
  · simp only [upd, tkF, if_neg h]
    by_cases h2 : j < n
    · rw [if_pos h2, if_pos (by omega)]
    · rw [if_neg h2, if_neg (by omega)]
theorem tkF_s2 (f f2 : Nat → Int32) (n : Nat) : upd (upd (tkF f f2 (2 * n)) (2 * n) (f2 (2 * n))) (2 * n + 1) (f2 (2 * n + 1)) = tkF f f2 (2 * (n + 1)) := by
  rw [tkF_s, tkF_s]; rfl
set_option maxHeartbeats 4000000 in
set_option maxRecDepth 100000 in
theorem c_S_addOneAt (l : Launch) (G : gl) (h : Nat → Nat) (np : Nat) (no : Nat) (k : Nat) (c : Nat) (f : Nat → Int32) (o : Nat → Int32) (i : Int32) (hk : k ≤ np) (hn : np < 2 ^ 31) : YC l G y_S_addOneAt k_S_addOneAt 2 (Option.none : Option FieldType) 0 0 [.ref (h 0), .int i] (wS G h np no k c f o) (fun v w => v = none ∧ w = wS G h np no k c (bmp f k i) o) (fun _ _ => False) := by
  refine yc_of (by decide) ?_
  intro pg ev sx mm bl mt cd A C0 hP hD
  obtain ⟨hx, hb, hrt, hml, hown, hg, hlocks, hxt, hE, hK, hA, hmn⟩ := C0
  have hS : va_S A sx.heap sx.heap [] := va_S.rf
  have hl := lv_entry ([.ref (h 0), .int i]) (n := 2) (Nat.le_of_ble_eq_true rfl)
  rw [lg_entry_eq]
  generalize (lg_sl ([.ref (h 0), .int i]) ++ List.replicate (2 - (lg_sl ([.ref (h 0), .int i])).length) Slot.unset).toArray = ls at hl ⊢
  have hl : lv_has ls 2 [(0, .ref (h 0)), (1, .int i)] := hl
  obtain ⟨H, hH⟩ : ∃ H, H = sx.heap := ⟨_, rfl⟩
  rw [← hH] at hP
  have hS : va_S A sx.heap H [] := by rw [hH]; exact hS
  suffices h9 : W pg l ev (yR 0 0) sx mm _ bl mt cd H [] 0 0 (yMQ bl G A _ _ _ _ sx) (F0 mm 0 ls []) by rw [hH] at h9; exact h9
  obtain ⟨locs, hlo⟩ : ∃ locs : List Loc, locs = [] := ⟨_, rfl⟩
  rw [← hlo] at hS ⊢
  refine lv_iload_n hx hb d_S_addOneAt_0 rfl (lv_at hl 1 rfl) ?_
  refine lv_if_lt (tgt := 22) hx hb d_S_addOneAt_1 (by decide) (fun c1 => ?_) (fun c1 => ?_)
  · skip
    exact yr_v (ws := wS G h np no k c f o) hx hb hrt hlocks (⟨rfl, by first | rw [bmp_neg c1] | rw [bmp_ge c9] | rw [bmp_nI hj (by omega)]⟩) rfl hK hP hD hS d_S_addOneAt_22
  · skip
    refine lv_iload_n hx hb d_S_addOneAt_4 rfl (lv_at hl 1 rfl) ?_
    refine lv_aload_n hx hb d_S_addOneAt_5 rfl (lv_at hl 0 rfl) ?_
    refine va_get (D := gD G) (ci := 2) (v := .int (nI k)) (C := "WordShapes$Shape") (T := TS) (N := 4) hx hb hg iw_S hown hK hP 0 rfl rfl 2 (by decide) (hg _ tk_43) (fun _ h9 => h9) rfl d_S_addOneAt_6 ?_
    refine lv_icmp_ge (tgt := 22) hx hb d_S_addOneAt_9 (by decide) (fun c9 => ?_) (fun c9 => ?_)
    · skip
      exact yr_v (ws := wS G h np no k c f o) hx hb hrt hlocks (⟨rfl, by first | rw [bmp_neg c1] | rw [bmp_ge c9] | rw [bmp_nI hj (by omega)]⟩) rfl hK hP hD hS d_S_addOneAt_22
    · skip
      obtain ⟨j, hj, rfl⟩ : ∃ j : Nat, j < k ∧ i = nI j := by rcases pk_ix i (n := k) (by omega) with q9 | q9 | q9; exact absurd q9 c1; exact absurd q9 c9; exact q9
      refine lv_aload_n hx hb d_S_addOneAt_12 rfl (lv_at hl 0 rfl) ?_
      refine va_get (D := gD G) (ci := 2) (v := .ref (h 1)) (C := "WordShapes$Shape") (T := TS) (N := 4) hx hb hg iw_S hown hK hP 0 rfl rfl 0 (by decide) (hg _ tk_41) (fun _ h9 => h9) rfl d_S_addOneAt_13 ?_
      refine lv_iload_n hx hb d_S_addOneAt_16 rfl (lv_at hl 1 rfl) ?_
      refine lv_dup2_11 hx hb d_S_addOneAt_17 rfl rfl ?_
      refine yn_iald hx hb hK hP 1 0 rfl rfl (j := j) (x := f j) (rfl) (by omega) (by omega) d_S_addOneAt_18 ?_
      refine lv_iconst (v := nI 1) hx hb d_S_addOneAt_19 (by decide) ?_
      refine lv_iadd hx hb d_S_addOneAt_20 ?_
      refine yn_iast hx hb hK hP hD hS 1 0 rfl rfl (j := j) (x := (f j) + (nI 1)) (f1 := upd f j ((f j) + (nI 1))) (rfl) (by omega) (by omega) d_S_addOneAt_21 (fun H locs hP hD hS => ?_)
      have hP : va_P (gD G) vwC (wS G h np no k c (upd f j ((f j) + (nI 1))) o) H := hP
      have hD : va_D A (wS G h np no k c (upd f j ((f j) + (nI 1))) o) := hD
      exact yr_v (ws := wS G h np no k c (upd f j ((f j) + (nI 1))) o) hx hb hrt hlocks (⟨rfl, by first | rw [bmp_neg c1] | rw [bmp_ge c9] | rw [bmp_nI hj (by omega)]⟩) rfl hK hP hD hS d_S_addOneAt_22
set_option maxHeartbeats 4000000 in
set_option maxRecDepth 100000 in
theorem c_S_clear (l : Launch) (G : gl) (h : Nat → Nat) (np : Nat) (no : Nat) (k : Nat) (c : Nat) (f : Nat → Int32) (o : Nat → Int32)   : YC l G y_S_clear k_S_clear 1 (Option.none : Option FieldType) 0 0 [.ref (h 0)] (wS G h np no k c f o) (fun v w => v = none ∧ w = wS G h np no 0 0 f o) (fun _ _ => False) := by
  refine yc_of (by decide) ?_
  intro pg ev sx mm bl mt cd A C0 hP hD
  obtain ⟨hx, hb, hrt, hml, hown, hg, hlocks, hxt, hE, hK, hA, hmn⟩ := C0
  have hS : va_S A sx.heap sx.heap [] := va_S.rf
  have hl := lv_entry ([.ref (h 0)]) (n := 1) (Nat.le_of_ble_eq_true rfl)
  rw [lg_entry_eq]
  generalize (lg_sl ([.ref (h 0)]) ++ List.replicate (1 - (lg_sl ([.ref (h 0)])).length) Slot.unset).toArray = ls at hl ⊢
  have hl : lv_has ls 1 [(0, .ref (h 0))] := hl
  obtain ⟨H, hH⟩ : ∃ H, H = sx.heap := ⟨_, rfl⟩
  rw [← hH] at hP
  have hS : va_S A sx.heap H [] := by rw [hH]; exact hS
  suffices h9 : W pg l ev (yR 0 0) sx mm _ bl mt cd H [] 0 0 (yMQ bl G A _ _ _ _ sx) (F0 mm 0 ls []) by rw [hH] at h9; exact h9
  obtain ⟨locs, hlo⟩ : ∃ locs : List Loc, locs = [] := ⟨_, rfl⟩
  rw [← hlo] at hS ⊢
  refine lv_aload_n hx hb d_S_clear_0 rfl (lv_at hl 0 rfl) ?_
  refine lv_iconst (v := nI 0) hx hb d_S_clear_1 (by decide) ?_
  refine va_put (D := gD G) (ci := 2) (v := .int (nI 0)) (ty := .int) (C := "WordShapes$Shape") (T := TS) (N := 4) hx hb hg iw_S ft_S fo_S nm_S hown hK hP hD hS 0 rfl rfl 2 (by decide) (hg _ tk_43) (fun _ h9 => h9) rfl (by decide +kernel) (rfl) (rfl) (Nat.le_of_ble_eq_true rfl) d_S_clear_2 (fun H locs hP hD hS => ?_)
  have hP : va_P (gD G) vwC (wS G h np no 0 c f o) H := hP
  have hD : va_D A (wS G h np no 0 c f o) := hD
  refine lv_aload_n hx hb d_S_clear_5 rfl (lv_at hl 0 rfl) ?_
  refine lv_iconst (v := nI 0) hx hb d_S_clear_6 (by decide) ?_
  refine va_put (D := gD G) (ci := 2) (v := .int (nI 0)) (ty := .int) (C := "WordShapes$Shape") (T := TS) (N := 4) hx hb hg iw_S ft_S fo_S nm_S hown hK hP hD hS 0 rfl rfl 3 (by decide) (hg _ tk_47) (fun _ h9 => h9) rfl (by decide +kernel) (rfl) (rfl) (Nat.le_of_ble_eq_true rfl) d_S_clear_7 (fun H locs hP hD hS => ?_)
  have hP : va_P (gD G) vwC (wS G h np no 0 0 f o) H := hP
  have hD : va_D A (wS G h np no 0 0 f o) := hD
  exact yr_v (ws := wS G h np no 0 0 f o) hx hb hrt hlocks (⟨rfl, rfl⟩) rfl hK hP hD hS d_S_clear_10
set_option maxHeartbeats 4000000 in
set_option maxRecDepth 100000 in
theorem c_S_isNone (l : Launch) (G : gl) (h : Nat → Nat) (np : Nat) (no : Nat) (k : Nat) (c : Nat) (f : Nat → Int32) (o : Nat → Int32)  (hk : k < 2 ^ 31) : YC l G y_S_isNone k_S_isNone 1 (Option.some FieldType.boolean) 0 0 [.ref (h 0)] (wS G h np no k c f o) (fun v w => v = some (.int (bz (decide (k = 0)))) ∧ w = wS G h np no k c f o) (fun _ _ => False) := by
  refine yc_of (by decide) ?_
  intro pg ev sx mm bl mt cd A C0 hP hD
  obtain ⟨hx, hb, hrt, hml, hown, hg, hlocks, hxt, hE, hK, hA, hmn⟩ := C0
  have hS : va_S A sx.heap sx.heap [] := va_S.rf
  have hl := lv_entry ([.ref (h 0)]) (n := 1) (Nat.le_of_ble_eq_true rfl)
  rw [lg_entry_eq]
  generalize (lg_sl ([.ref (h 0)]) ++ List.replicate (1 - (lg_sl ([.ref (h 0)])).length) Slot.unset).toArray = ls at hl ⊢
  have hl : lv_has ls 1 [(0, .ref (h 0))] := hl
  obtain ⟨H, hH⟩ : ∃ H, H = sx.heap := ⟨_, rfl⟩
  rw [← hH] at hP
  have hS : va_S A sx.heap H [] := by rw [hH]; exact hS
  suffices h9 : W pg l ev (yR 0 0) sx mm _ bl mt cd H [] 0 0 (yMQ bl G A _ _ _ _ sx) (F0 mm 0 ls []) by rw [hH] at h9; exact h9
  obtain ⟨locs, hlo⟩ : ∃ locs : List Loc, locs = [] := ⟨_, rfl⟩
  rw [← hlo] at hS ⊢
  refine lv_aload_n hx hb d_S_isNone_0 rfl (lv_at hl 0 rfl) ?_
  refine va_get (D := gD G) (ci := 2) (v := .int (nI k)) (C := "WordShapes$Shape") (T := TS) (N := 4) hx hb hg iw_S hown hK hP 0 rfl rfl 2 (by decide) (hg _ tk_43) (fun _ h9 => h9) rfl d_S_isNone_1 ?_
  refine yn_if_ne (a := k) (tgt := 11) hx hb d_S_isNone_4 (by decide) (by omega) (fun c4 => ?_) (fun c4 => ?_)
  · skip
    refine lv_iconst (v := nI 0) hx hb d_S_isNone_11 (by decide) ?_
    exact yr_z (ws := wS G h np no k c f o) hx hb hrt (rfl) hlocks (⟨congrArg (fun z => some (Value.int z)) (bz_f (by omega)), rfl⟩) rfl hK hP hD hS d_S_isNone_12
  · skip
    refine lv_iconst (v := nI 1) hx hb d_S_isNone_7 (by decide) ?_
    refine lv_goto (tgt := 12) hx hb d_S_isNone_8 (by decide) ?_
    exact yr_z (ws := wS G h np no k c f o) hx hb hrt (rfl) hlocks (⟨congrArg (fun z => some (Value.int z)) (bz_t (by omega)), rfl⟩) rfl hK hP hD hS d_S_isNone_12
set_option maxHeartbeats 4000000 in
set_option maxRecDepth 100000 in
theorem c_S_hasRoomFor (l : Launch) (G : gl) (h : Nat → Nat) (np : Nat) (no : Nat) (k : Nat) (c : Nat) (f : Nat → Int32) (o : Nat → Int32) (x : Nat) (hx9 : x ≤ np) (hk : k < 2 ^ 31) (hn : np < 2 ^ 31) : YC l G y_S_hasRoomFor k_S_hasRoomFor 2 (Option.some FieldType.boolean) 0 0 [.ref (h 0), .int (nI x)] (wS G h np no k c f o) (fun v w => v = some (.int (bz (decide (k ≤ np - x)))) ∧ w = wS G h np no k c f o) (fun _ _ => False) := by
  refine yc_of (by decide) ?_
  intro pg ev sx mm bl mt cd A C0 hP hD
  obtain ⟨hx, hb, hrt, hml, hown, hg, hlocks, hxt, hE, hK, hA, hmn⟩ := C0
  have hS : va_S A sx.heap sx.heap [] := va_S.rf
  have hl := lv_entry ([.ref (h 0), .int (nI x)]) (n := 2) (Nat.le_of_ble_eq_true rfl)
  rw [lg_entry_eq]
  generalize (lg_sl ([.ref (h 0), .int (nI x)]) ++ List.replicate (2 - (lg_sl ([.ref (h 0), .int (nI x)])).length) Slot.unset).toArray = ls at hl ⊢
  have hl : lv_has ls 2 [(0, .ref (h 0)), (1, .int (nI x))] := hl
  obtain ⟨H, hH⟩ : ∃ H, H = sx.heap := ⟨_, rfl⟩
  rw [← hH] at hP
  have hS : va_S A sx.heap H [] := by rw [hH]; exact hS
  suffices h9 : W pg l ev (yR 0 0) sx mm _ bl mt cd H [] 0 0 (yMQ bl G A _ _ _ _ sx) (F0 mm 0 ls []) by rw [hH] at h9; exact h9
  obtain ⟨locs, hlo⟩ : ∃ locs : List Loc, locs = [] := ⟨_, rfl⟩
  rw [← hlo] at hS ⊢
  refine lv_aload_n hx hb d_S_hasRoomFor_0 rfl (lv_at hl 0 rfl) ?_
  refine va_get (D := gD G) (ci := 2) (v := .int (nI k)) (C := "WordShapes$Shape") (T := TS) (N := 4) hx hb hg iw_S hown hK hP 0 rfl rfl 2 (by decide) (hg _ tk_43) (fun _ h9 => h9) rfl d_S_hasRoomFor_1 ?_
  refine lv_aload_n hx hb d_S_hasRoomFor_4 rfl (lv_at hl 0 rfl) ?_
  refine va_get (D := gD G) (ci := 2) (v := .ref (h 1)) (C := "WordShapes$Shape") (T := TS) (N := 4) hx hb hg iw_S hown hK hP 0 rfl rfl 0 (by decide) (hg _ tk_41) (fun _ h9 => h9) rfl d_S_hasRoomFor_5 ?_
  refine va_alen hx hb hK hP 1 0 rfl rfl (v := nI np) rfl d_S_hasRoomFor_8 ?_
  refine lv_iload_n hx hb d_S_hasRoomFor_9 rfl (lv_at hl 1 rfl) ?_
  refine lv_isub hx hb d_S_hasRoomFor_10 ?_
  refine y_eqi (pk_sub (by omega)) ?_
  refine yn_icmp_gt (a := k) (b := np - x) (tgt := 18) hx hb d_S_hasRoomFor_11 (by decide) (by omega) (by omega) (fun c11 => ?_) (fun c11 => ?_)
  · skip
    refine lv_iconst (v := nI 0) hx hb d_S_hasRoomFor_18 (by decide) ?_
    exact yr_z (ws := wS G h np no k c f o) hx hb hrt (rfl) hlocks (⟨congrArg (fun z => some (Value.int z)) (bz_f (by omega)), rfl⟩) rfl hK hP hD hS d_S_hasRoomFor_19
  · skip
    refine lv_iconst (v := nI 1) hx hb d_S_hasRoomFor_14 (by decide) ?_
    refine lv_goto (tgt := 19) hx hb d_S_hasRoomFor_15 (by decide) ?_
    exact yr_z (ws := wS G h np no k c f o) hx hb hrt (rfl) hlocks (⟨congrArg (fun z => some (Value.int z)) (bz_t (by omega)), rfl⟩) rfl hK hP hD hS d_S_hasRoomFor_19
set_option maxHeartbeats 4000000 in
set_option maxRecDepth 100000 in
theorem c_S_hasRoomForPoint (l : Launch) (G : gl) (h : Nat → Nat) (np : Nat) (no : Nat) (k : Nat) (c : Nat) (f : Nat → Int32) (o : Nat → Int32)  (hc : c < 2 ^ 20) (hn : no < 2 ^ 31) : YC l G y_S_hasRoomForPoint k_S_hasRoomForPoint 1 (Option.some FieldType.boolean) 0 0 [.ref (h 0)] (wS G h np no k c f o) (fun v w => v = some (.int (bz (decide (2 * c + 1 < no)))) ∧ w = wS G h np no k c f o) (fun _ _ => False) := by
  refine yc_of (by decide) ?_
  intro pg ev sx mm bl mt cd A C0 hP hD
  obtain ⟨hx, hb, hrt, hml, hown, hg, hlocks, hxt, hE, hK, hA, hmn⟩ := C0
  have hS : va_S A sx.heap sx.heap [] := va_S.rf
  have hl := lv_entry ([.ref (h 0)]) (n := 1) (Nat.le_of_ble_eq_true rfl)
  rw [lg_entry_eq]
  generalize (lg_sl ([.ref (h 0)]) ++ List.replicate (1 - (lg_sl ([.ref (h 0)])).length) Slot.unset).toArray = ls at hl ⊢
  have hl : lv_has ls 1 [(0, .ref (h 0))] := hl
  obtain ⟨H, hH⟩ : ∃ H, H = sx.heap := ⟨_, rfl⟩
  rw [← hH] at hP
  have hS : va_S A sx.heap H [] := by rw [hH]; exact hS
  suffices h9 : W pg l ev (yR 0 0) sx mm _ bl mt cd H [] 0 0 (yMQ bl G A _ _ _ _ sx) (F0 mm 0 ls []) by rw [hH] at h9; exact h9
  obtain ⟨locs, hlo⟩ : ∃ locs : List Loc, locs = [] := ⟨_, rfl⟩
  rw [← hlo] at hS ⊢
  refine lv_iconst (v := nI 2) hx hb d_S_hasRoomForPoint_0 (by decide) ?_
  refine lv_aload_n hx hb d_S_hasRoomForPoint_1 rfl (lv_at hl 0 rfl) ?_
  refine va_get (D := gD G) (ci := 2) (v := .int (nI c)) (C := "WordShapes$Shape") (T := TS) (N := 4) hx hb hg iw_S hown hK hP 0 rfl rfl 3 (by decide) (hg _ tk_47) (fun _ h9 => h9) rfl d_S_hasRoomForPoint_2 ?_
  refine lv_imul hx hb d_S_hasRoomForPoint_5 ?_
  refine y_eqi (pk_mul _ _) ?_
  refine lv_iconst (v := nI 1) hx hb d_S_hasRoomForPoint_6 (by decide) ?_
  refine lv_iadd hx hb d_S_hasRoomForPoint_7 ?_
  refine y_eqi (nI_add _ _) ?_
  refine lv_aload_n hx hb d_S_hasRoomForPoint_8 rfl (lv_at hl 0 rfl) ?_
  refine va_get (D := gD G) (ci := 2) (v := .ref (h 2)) (C := "WordShapes$Shape") (T := TS) (N := 4) hx hb hg iw_S hown hK hP 0 rfl rfl 1 (by decide) (hg _ tk_42) (fun _ h9 => h9) rfl d_S_hasRoomForPoint_9 ?_
  refine va_alen hx hb hK hP 2 0 rfl rfl (v := nI no) rfl d_S_hasRoomForPoint_12 ?_
  refine yn_icmp_ge (a := 2 * c + 1) (b := no) (tgt := 20) hx hb d_S_hasRoomForPoint_13 (by decide) (by omega) (by omega) (fun c13 => ?_) (fun c13 => ?_)
  · skip
    refine lv_iconst (v := nI 0) hx hb d_S_hasRoomForPoint_20 (by decide) ?_
    exact yr_z (ws := wS G h np no k c f o) hx hb hrt (rfl) hlocks (⟨congrArg (fun z => some (Value.int z)) (bz_f (by omega)), rfl⟩) rfl hK hP hD hS d_S_hasRoomForPoint_21
  · skip
    refine lv_iconst (v := nI 1) hx hb d_S_hasRoomForPoint_16 (by decide) ?_
    refine lv_goto (tgt := 21) hx hb d_S_hasRoomForPoint_17 (by decide) ?_
    exact yr_z (ws := wS G h np no k c f o) hx hb hrt (rfl) hlocks (⟨congrArg (fun z => some (Value.int z)) (bz_t (by omega)), rfl⟩) rfl hK hP hD hS d_S_hasRoomForPoint_21
set_option maxHeartbeats 4000000 in
set_option maxRecDepth 100000 in
theorem c_S_addNumber (l : Launch) (G : gl) (h : Nat → Nat) (np : Nat) (no : Nat) (k : Nat) (c : Nat) (f : Nat → Int32) (o : Nat → Int32) (x : Int32) (hk : k < np) (hn : np < 2 ^ 31) : YC l G y_S_addNumber k_S_addNumber 2 (Option.none : Option FieldType) 0 0 [.ref (h 0), .int x] (wS G h np no k c f o) (fun v w => v = none ∧ w = wS G h np no (k + 1) c (upd f k x) o) (fun _ _ => False) := by
  refine yc_of (by decide) ?_
  intro pg ev sx mm bl mt cd A C0 hP hD
  obtain ⟨hx, hb, hrt, hml, hown, hg, hlocks, hxt, hE, hK, hA, hmn⟩ := C0
  have hS : va_S A sx.heap sx.heap [] := va_S.rf
  have hl := lv_entry ([.ref (h 0), .int x]) (n := 2) (Nat.le_of_ble_eq_true rfl)
  rw [lg_entry_eq]
  generalize (lg_sl ([.ref (h 0), .int x]) ++ List.replicate (2 - (lg_sl ([.ref (h 0), .int x])).length) Slot.unset).toArray = ls at hl ⊢
  have hl : lv_has ls 2 [(0, .ref (h 0)), (1, .int x)] := hl
  obtain ⟨H, hH⟩ : ∃ H, H = sx.heap := ⟨_, rfl⟩
  rw [← hH] at hP
  have hS : va_S A sx.heap H [] := by rw [hH]; exact hS
  suffices h9 : W pg l ev (yR 0 0) sx mm _ bl mt cd H [] 0 0 (yMQ bl G A _ _ _ _ sx) (F0 mm 0 ls []) by rw [hH] at h9; exact h9
  obtain ⟨locs, hlo⟩ : ∃ locs : List Loc, locs = [] := ⟨_, rfl⟩
  rw [← hlo] at hS ⊢
  refine lv_aload_n hx hb d_S_addNumber_0 rfl (lv_at hl 0 rfl) ?_
  refine va_get (D := gD G) (ci := 2) (v := .int (nI k)) (C := "WordShapes$Shape") (T := TS) (N := 4) hx hb hg iw_S hown hK hP 0 rfl rfl 2 (by decide) (hg _ tk_43) (fun _ h9 => h9) rfl d_S_addNumber_1 ?_
  refine lv_aload_n hx hb d_S_addNumber_4 rfl (lv_at hl 0 rfl) ?_
  refine va_get (D := gD G) (ci := 2) (v := .ref (h 1)) (C := "WordShapes$Shape") (T := TS) (N := 4) hx hb hg iw_S hown hK hP 0 rfl rfl 0 (by decide) (hg _ tk_41) (fun _ h9 => h9) rfl d_S_addNumber_5 ?_
  refine va_alen hx hb hK hP 1 0 rfl rfl (v := nI np) rfl d_S_addNumber_8 ?_
  refine yn_icmp_ge (a := k) (b := np) (tgt := 32) hx hb d_S_addNumber_9 (by decide) (by omega) (by omega) (fun c9 => ?_) (fun c9 => ?_)
  · skip
    exact absurd c9 (by omega)
  · skip
    refine lv_aload_n hx hb d_S_addNumber_12 rfl (lv_at hl 0 rfl) ?_
    refine va_get (D := gD G) (ci := 2) (v := .ref (h 1)) (C := "WordShapes$Shape") (T := TS) (N := 4) hx hb hg iw_S hown hK hP 0 rfl rfl 0 (by decide) (hg _ tk_41) (fun _ h9 => h9) rfl d_S_addNumber_13 ?_
    refine lv_aload_n hx hb d_S_addNumber_16 rfl (lv_at hl 0 rfl) ?_
    refine va_get (D := gD G) (ci := 2) (v := .int (nI k)) (C := "WordShapes$Shape") (T := TS) (N := 4) hx hb hg iw_S hown hK hP 0 rfl rfl 2 (by decide) (hg _ tk_43) (fun _ h9 => h9) rfl d_S_addNumber_17 ?_
    refine lv_iload_n hx hb d_S_addNumber_20 rfl (lv_at hl 1 rfl) ?_
    refine yn_iast hx hb hK hP hD hS 1 0 rfl rfl (j := k) (x := x) (f1 := upd f k x) (rfl) (by omega) (by omega) d_S_addNumber_21 (fun H locs hP hD hS => ?_)
    have hP : va_P (gD G) vwC (wS G h np no k c (upd f k x) o) H := hP
    have hD : va_D A (wS G h np no k c (upd f k x) o) := hD
    refine lv_aload_n hx hb d_S_addNumber_22 rfl (lv_at hl 0 rfl) ?_
    refine lv_dup hx hb d_S_addNumber_23 rfl ?_
    refine va_get (D := gD G) (ci := 2) (v := .int (nI k)) (C := "WordShapes$Shape") (T := TS) (N := 4) hx hb hg iw_S hown hK hP 0 rfl rfl 2 (by decide) (hg _ tk_43) (fun _ h9 => h9) rfl d_S_addNumber_24 ?_
    refine lv_iconst (v := nI 1) hx hb d_S_addNumber_27 (by decide) ?_
    refine lv_iadd hx hb d_S_addNumber_28 ?_
    refine y_eqi (nI_add _ _) ?_
    refine va_put (D := gD G) (ci := 2) (v := .int (nI (k + 1))) (ty := .int) (C := "WordShapes$Shape") (T := TS) (N := 4) hx hb hg iw_S ft_S fo_S nm_S hown hK hP hD hS 0 rfl rfl 2 (by decide) (hg _ tk_43) (fun _ h9 => h9) rfl (by decide +kernel) (rfl) (rfl) (Nat.le_of_ble_eq_true rfl) d_S_addNumber_29 (fun H locs hP hD hS => ?_)
    have hP : va_P (gD G) vwC (wS G h np no (k + 1) c (upd f k x) o) H := hP
    have hD : va_D A (wS G h np no (k + 1) c (upd f k x) o) := hD
    exact yr_v (ws := wS G h np no (k + 1) c (upd f k x) o) hx hb hrt hlocks (⟨rfl, rfl⟩) rfl hK hP hD hS d_S_addNumber_32
set_option maxHeartbeats 4000000 in
set_option maxRecDepth 100000 in
theorem c_S_addPoint (l : Launch) (G : gl) (h : Nat → Nat) (np : Nat) (no : Nat) (k : Nat) (c : Nat) (f : Nat → Int32) (o : Nat → Int32) (x : Int32) (y : Int32) (hc : 2 * c + 1 < no) (hn : no < 2 ^ 20) : YC l G y_S_addPoint k_S_addPoint 3 (Option.none : Option FieldType) 1 20 [.ref (h 0), .int x, .int y] (wS G h np no k c f o) (fun v w => v = none ∧ w = wS G h np no k (c + 1) f (upd (upd o (2 * c) x) (2 * c + 1) y)) (fun _ _ => False) := by
  refine yc_of (by decide) ?_
  intro pg ev sx mm bl mt cd A C0 hP hD
  obtain ⟨hx, hb, hrt, hml, hown, hg, hlocks, hxt, hE, hK, hA, hmn⟩ := C0
  have hS : va_S A sx.heap sx.heap [] := va_S.rf
  have hl := lv_entry ([.ref (h 0), .int x, .int y]) (n := 3) (Nat.le_of_ble_eq_true rfl)
  rw [lg_entry_eq]
  generalize (lg_sl ([.ref (h 0), .int x, .int y]) ++ List.replicate (3 - (lg_sl ([.ref (h 0), .int x, .int y])).length) Slot.unset).toArray = ls at hl ⊢
  have hl : lv_has ls 3 [(0, .ref (h 0)), (1, .int x), (2, .int y)] := hl
  obtain ⟨H, hH⟩ : ∃ H, H = sx.heap := ⟨_, rfl⟩
  rw [← hH] at hP
  have hS : va_S A sx.heap H [] := by rw [hH]; exact hS
  suffices h9 : W pg l ev (yR 1 20) sx mm _ bl mt cd H [] 0 0 (yMQ bl G A _ _ _ _ sx) (F0 mm 0 ls []) by rw [hH] at h9; exact h9
  obtain ⟨locs, hlo⟩ : ∃ locs : List Loc, locs = [] := ⟨_, rfl⟩
  rw [← hlo] at hS ⊢
  refine lv_aload_n hx hb d_S_addPoint_0 rfl (lv_at hl 0 rfl) ?_
  refine y_call (y_runV (As := []) (rest := []) hx hb hml hown (c_S_hasRoomForPoint l G h np no k c f o  (by omega) (by omega)) (gV (n := 0) hg tk_517 tk_481 tk_482 tk_3 tk_483 (by decide +kernel) ⟨Nat.le_of_ble_eq_true rfl, Nat.le_of_ble_eq_true rfl⟩) (va_recv hK hP (ci := 2) (q0 := 0) rfl rfl) (y_pre hE hK hP hD hS hA [0, 1, 2] rfl rfl) rfl rfl hl.1 rfl (lv_room (Nat.le_of_ble_eq_true rfl)) d_S_addPoint_1 ⟨Nat.le_of_ble_eq_true rfl, Nat.le_of_ble_eq_true rfl⟩) hP hD hS hA [0, 1, 2] rfl (fun _ _ _ _ _ _ hp => False.elim hp) (fun v w H locs hp hlw hP hD hS => ?_)
  obtain ⟨rfl, rfl⟩ := hp
  have hP : va_P (gD G) vwC (wS G h np no k c f o) H := hP
  have hD : va_D A (wS G h np no k c f o) := hD
  refine W.eq (g2 := F0 mm 4 ls [.int (bz (decide (2 * c + 1 < no)))]) rfl ?_
  refine yz_if_eq (P := 2 * c + 1 < no) (tgt := 43) hx hb d_S_addPoint_4 (by decide) (fun c4 => ?_) (fun c4 => ?_)
  · skip
    exact absurd hc c4
  · skip
    refine lv_aload_n hx hb d_S_addPoint_7 rfl (lv_at hl 0 rfl) ?_
    refine va_get (D := gD G) (ci := 2) (v := .ref (h 2)) (C := "WordShapes$Shape") (T := TS) (N := 4) hx hb hg iw_S hown hK hP 0 rfl rfl 1 (by decide) (hg _ tk_42) (fun _ h9 => h9) rfl d_S_addPoint_8 ?_
    refine lv_iconst (v := nI 2) hx hb d_S_addPoint_11 (by decide) ?_
    refine lv_aload_n hx hb d_S_addPoint_12 rfl (lv_at hl 0 rfl) ?_
    refine va_get (D := gD G) (ci := 2) (v := .int (nI c)) (C := "WordShapes$Shape") (T := TS) (N := 4) hx hb hg iw_S hown hK hP 0 rfl rfl 3 (by decide) (hg _ tk_47) (fun _ h9 => h9) rfl d_S_addPoint_13 ?_
    refine lv_imul hx hb d_S_addPoint_16 ?_
    refine y_eqi (pk_mul _ _) ?_
    refine lv_iload_n hx hb d_S_addPoint_17 rfl (lv_at hl 1 rfl) ?_
    refine yn_iast hx hb hK hP hD hS 2 0 rfl rfl (j := 2 * c) (x := x) (f1 := upd o (2 * c) x) (rfl) (by omega) (by omega) d_S_addPoint_18 (fun H locs hP hD hS => ?_)
    have hP : va_P (gD G) vwC (wS G h np no k c f (upd o (2 * c) x)) H := hP
    have hD : va_D A (wS G h np no k c f (upd o (2 * c) x)) := hD
    refine lv_aload_n hx hb d_S_addPoint_19 rfl (lv_at hl 0 rfl) ?_
    refine va_get (D := gD G) (ci := 2) (v := .ref (h 2)) (C := "WordShapes$Shape") (T := TS) (N := 4) hx hb hg iw_S hown hK hP 0 rfl rfl 1 (by decide) (hg _ tk_42) (fun _ h9 => h9) rfl d_S_addPoint_20 ?_
    refine lv_iconst (v := nI 2) hx hb d_S_addPoint_23 (by decide) ?_
    refine lv_aload_n hx hb d_S_addPoint_24 rfl (lv_at hl 0 rfl) ?_
    refine va_get (D := gD G) (ci := 2) (v := .int (nI c)) (C := "WordShapes$Shape") (T := TS) (N := 4) hx hb hg iw_S hown hK hP 0 rfl rfl 3 (by decide) (hg _ tk_47) (fun _ h9 => h9) rfl d_S_addPoint_25 ?_
    refine lv_imul hx hb d_S_addPoint_28 ?_
    refine y_eqi (pk_mul _ _) ?_
    refine lv_iconst (v := nI 1) hx hb d_S_addPoint_29 (by decide) ?_
    refine lv_iadd hx hb d_S_addPoint_30 ?_
    refine y_eqi (nI_add _ _) ?_
    refine lv_iload_n hx hb d_S_addPoint_31 rfl (lv_at hl 2 rfl) ?_
    refine yn_iast hx hb hK hP hD hS 2 0 rfl rfl (j := 2 * c + 1) (x := y) (f1 := upd (upd o (2 * c) x) (2 * c + 1) y) (rfl) (by omega) (by omega) d_S_addPoint_32 (fun H locs hP hD hS => ?_)
    have hP : va_P (gD G) vwC (wS G h np no k c f (upd (upd o (2 * c) x) (2 * c + 1) y)) H := hP
    have hD : va_D A (wS G h np no k c f (upd (upd o (2 * c) x) (2 * c + 1) y)) := hD
    refine lv_aload_n hx hb d_S_addPoint_33 rfl (lv_at hl 0 rfl) ?_
    refine lv_dup hx hb d_S_addPoint_34 rfl ?_
    refine va_get (D := gD G) (ci := 2) (v := .int (nI c)) (C := "WordShapes$Shape") (T := TS) (N := 4) hx hb hg iw_S hown hK hP 0 rfl rfl 3 (by decide) (hg _ tk_47) (fun _ h9 => h9) rfl d_S_addPoint_35 ?_
    refine lv_iconst (v := nI 1) hx hb d_S_addPoint_38 (by decide) ?_
    refine lv_iadd hx hb d_S_addPoint_39 ?_
    refine y_eqi (nI_add _ _) ?_
    refine va_put (D := gD G) (ci := 2) (v := .int (nI (c + 1))) (ty := .int) (C := "WordShapes$Shape") (T := TS) (N := 4) hx hb hg iw_S ft_S fo_S nm_S hown hK hP hD hS 0 rfl rfl 3 (by decide) (hg _ tk_47) (fun _ h9 => h9) rfl (by decide +kernel) (rfl) (rfl) (Nat.le_of_ble_eq_true rfl) d_S_addPoint_40 (fun H locs hP hD hS => ?_)
    have hP : va_P (gD G) vwC (wS G h np no k (c + 1) f (upd (upd o (2 * c) x) (2 * c + 1) y)) H := hP
    have hD : va_D A (wS G h np no k (c + 1) f (upd (upd o (2 * c) x) (2 * c + 1) y)) := hD
    exact yr_v (ws := wS G h np no k (c + 1) f (upd (upd o (2 * c) x) (2 * c + 1) y)) hx hb hrt hlocks (⟨rfl, rfl⟩) rfl hK hP hD hS d_S_addPoint_43
set_option maxHeartbeats 4000000 in
set_option maxRecDepth 100000 in
theorem c_S_numberAt (l : Launch) (G : gl) (h : Nat → Nat) (np : Nat) (no : Nat) (k : Nat) (c : Nat) (f : Nat → Int32) (o : Nat → Int32) (j : Nat) (hj : j < 2 ^ 31) (hk : k ≤ np) (hn : np < 2 ^ 31) : YC l G y_S_numberAt k_S_numberAt 2 (Option.some FieldType.int) 0 0 [.ref (h 0), .int (nI j)] (wS G h np no k c f o) (fun v w => v = some (.int (if j < k then f j else 0)) ∧ w = wS G h np no k c f o) (fun _ _ => False) := by
  refine yc_of (by decide) ?_
  intro pg ev sx mm bl mt cd A C0 hP hD
  obtain ⟨hx, hb, hrt, hml, hown, hg, hlocks, hxt, hE, hK, hA, hmn⟩ := C0
  have hS : va_S A sx.heap sx.heap [] := va_S.rf
  have hl := lv_entry ([.ref (h 0), .int (nI j)]) (n := 2) (Nat.le_of_ble_eq_true rfl)
  rw [lg_entry_eq]
  generalize (lg_sl ([.ref (h 0), .int (nI j)]) ++ List.replicate (2 - (lg_sl ([.ref (h 0), .int (nI j)])).length) Slot.unset).toArray = ls at hl ⊢
  have hl : lv_has ls 2 [(0, .ref (h 0)), (1, .int (nI j))] := hl
  obtain ⟨H, hH⟩ : ∃ H, H = sx.heap := ⟨_, rfl⟩
  rw [← hH] at hP
  have hS : va_S A sx.heap H [] := by rw [hH]; exact hS
  suffices h9 : W pg l ev (yR 0 0) sx mm _ bl mt cd H [] 0 0 (yMQ bl G A _ _ _ _ sx) (F0 mm 0 ls []) by rw [hH] at h9; exact h9
  obtain ⟨locs, hlo⟩ : ∃ locs : List Loc, locs = [] := ⟨_, rfl⟩
  rw [← hlo] at hS ⊢
  refine lv_iload_n hx hb d_S_numberAt_0 rfl (lv_at hl 1 rfl) ?_
  refine yn_if_lt (a := j) (tgt := 21) hx hb d_S_numberAt_1 (by decide) (by omega) (fun c1 => ?_) (fun c1 => ?_)
  · skip
    exact c1.elim
  · skip
    refine lv_iload_n hx hb d_S_numberAt_4 rfl (lv_at hl 1 rfl) ?_
    refine lv_aload_n hx hb d_S_numberAt_5 rfl (lv_at hl 0 rfl) ?_
    refine va_get (D := gD G) (ci := 2) (v := .int (nI k)) (C := "WordShapes$Shape") (T := TS) (N := 4) hx hb hg iw_S hown hK hP 0 rfl rfl 2 (by decide) (hg _ tk_43) (fun _ h9 => h9) rfl d_S_numberAt_6 ?_
    refine yn_icmp_ge (a := j) (b := k) (tgt := 21) hx hb d_S_numberAt_9 (by decide) (by omega) (by omega) (fun c9 => ?_) (fun c9 => ?_)
    · skip
      refine lv_iconst (v := nI 0) hx hb d_S_numberAt_21 (by decide) ?_
      exact yr_i (ws := wS G h np no k c f o) hx hb hrt hlocks (⟨by first | rw [if_pos c9] | rw [if_neg (by omega)]; rfl, rfl⟩) rfl hK hP hD hS d_S_numberAt_22
    · skip
      refine lv_aload_n hx hb d_S_numberAt_12 rfl (lv_at hl 0 rfl) ?_
      refine va_get (D := gD G) (ci := 2) (v := .ref (h 1)) (C := "WordShapes$Shape") (T := TS) (N := 4) hx hb hg iw_S hown hK hP 0 rfl rfl 0 (by decide) (hg _ tk_41) (fun _ h9 => h9) rfl d_S_numberAt_13 ?_
      refine lv_iload_n hx hb d_S_numberAt_16 rfl (lv_at hl 1 rfl) ?_
      refine yn_iald hx hb hK hP 1 0 rfl rfl (j := j) (x := f j) (rfl) (by omega) (by omega) d_S_numberAt_17 ?_
      refine lv_goto (tgt := 22) hx hb d_S_numberAt_18 (by decide) ?_
      exact yr_i (ws := wS G h np no k c f o) hx hb hrt hlocks (⟨by first | rw [if_pos c9] | rw [if_neg (by omega)]; rfl, rfl⟩) rfl hK hP hD hS d_S_numberAt_22
set_option maxHeartbeats 4000000 in
set_option maxRecDepth 100000 in
theorem c_S_ordinateAt (l : Launch) (G : gl) (h : Nat → Nat) (np : Nat) (no : Nat) (k : Nat) (c : Nat) (f : Nat → Int32) (o : Nat → Int32) (j : Nat) (x : Nat) (hj : j < 2 ^ 20) (hx9 : x ≤ 1) (hc : 2 * c ≤ no) (hn : no < 2 ^ 20) : YC l G y_S_ordinateAt k_S_ordinateAt 3 (Option.some FieldType.int) 0 0 [.ref (h 0), .int (nI j), .int (nI x)] (wS G h np no k c f o) (fun v w => v = some (.int (if j < c then o (2 * j + x) else 0)) ∧ w = wS G h np no k c f o) (fun _ _ => False) := by
  refine yc_of (by decide) ?_
  intro pg ev sx mm bl mt cd A C0 hP hD
  obtain ⟨hx, hb, hrt, hml, hown, hg, hlocks, hxt, hE, hK, hA, hmn⟩ := C0
  have hS : va_S A sx.heap sx.heap [] := va_S.rf
  have hl := lv_entry ([.ref (h 0), .int (nI j), .int (nI x)]) (n := 3) (Nat.le_of_ble_eq_true rfl)
  rw [lg_entry_eq]
  generalize (lg_sl ([.ref (h 0), .int (nI j), .int (nI x)]) ++ List.replicate (3 - (lg_sl ([.ref (h 0), .int (nI j), .int (nI x)])).length) Slot.unset).toArray = ls at hl ⊢
  have hl : lv_has ls 3 [(0, .ref (h 0)), (1, .int (nI j)), (2, .int (nI x))] := hl
  obtain ⟨H, hH⟩ : ∃ H, H = sx.heap := ⟨_, rfl⟩
  rw [← hH] at hP
  have hS : va_S A sx.heap H [] := by rw [hH]; exact hS
  suffices h9 : W pg l ev (yR 0 0) sx mm _ bl mt cd H [] 0 0 (yMQ bl G A _ _ _ _ sx) (F0 mm 0 ls []) by rw [hH] at h9; exact h9
  obtain ⟨locs, hlo⟩ : ∃ locs : List Loc, locs = [] := ⟨_, rfl⟩
  rw [← hlo] at hS ⊢
  refine lv_iload_n hx hb d_S_ordinateAt_0 rfl (lv_at hl 1 rfl) ?_
  refine yn_if_lt (a := j) (tgt := 27) hx hb d_S_ordinateAt_1 (by decide) (by omega) (fun c1 => ?_) (fun c1 => ?_)
  · skip
    exact c1.elim
  · skip
    refine lv_iload_n hx hb d_S_ordinateAt_4 rfl (lv_at hl 1 rfl) ?_
    refine lv_aload_n hx hb d_S_ordinateAt_5 rfl (lv_at hl 0 rfl) ?_
    refine va_get (D := gD G) (ci := 2) (v := .int (nI c)) (C := "WordShapes$Shape") (T := TS) (N := 4) hx hb hg iw_S hown hK hP 0 rfl rfl 3 (by decide) (hg _ tk_47) (fun _ h9 => h9) rfl d_S_ordinateAt_6 ?_
    refine yn_icmp_ge (a := j) (b := c) (tgt := 27) hx hb d_S_ordinateAt_9 (by decide) (by omega) (by omega) (fun c9 => ?_) (fun c9 => ?_)
    · skip
      refine lv_iconst (v := nI 0) hx hb d_S_ordinateAt_27 (by decide) ?_
      exact yr_i (ws := wS G h np no k c f o) hx hb hrt hlocks (⟨by first | rw [if_pos c9] | rw [if_neg (by omega)]; rfl, rfl⟩) rfl hK hP hD hS d_S_ordinateAt_28
    · skip
      refine lv_aload_n hx hb d_S_ordinateAt_12 rfl (lv_at hl 0 rfl) ?_
      refine va_get (D := gD G) (ci := 2) (v := .ref (h 2)) (C := "WordShapes$Shape") (T := TS) (N := 4) hx hb hg iw_S hown hK hP 0 rfl rfl 1 (by decide) (hg _ tk_42) (fun _ h9 => h9) rfl d_S_ordinateAt_13 ?_
      refine lv_iconst (v := nI 2) hx hb d_S_ordinateAt_16 (by decide) ?_
      refine lv_iload_n hx hb d_S_ordinateAt_17 rfl (lv_at hl 1 rfl) ?_
      refine lv_imul hx hb d_S_ordinateAt_18 ?_
      refine y_eqi (pk_mul _ _) ?_
      refine lv_iload_n hx hb d_S_ordinateAt_19 rfl (lv_at hl 2 rfl) ?_
      refine lv_iconst (v := nI 1) hx hb d_S_ordinateAt_20 (by decide) ?_
      refine lv_iand hx hb d_S_ordinateAt_21 ?_
      refine y_eqi (y := nI x) ((pk_andN (by omega) 1 (by decide)).trans (congrArg nI (by omega))) ?_
      refine lv_iadd hx hb d_S_ordinateAt_22 ?_
      refine y_eqi (nI_add _ _) ?_
      refine yn_iald hx hb hK hP 2 0 rfl rfl (j := 2 * j + x) (x := o (2 * j + x)) (rfl) (by omega) (by omega) d_S_ordinateAt_23 ?_
      refine lv_goto (tgt := 28) hx hb d_S_ordinateAt_24 (by decide) ?_
      exact yr_i (ws := wS G h np no k c f o) hx hb hrt hlocks (⟨by first | rw [if_pos c9] | rw [if_neg (by omega)]; rfl, rfl⟩) rfl hK hP hD hS d_S_ordinateAt_28
set_option maxHeartbeats 4000000 in
set_option maxRecDepth 100000 in
theorem c_S_takeFrom (l : Launch) (G : gl) (h : Nat → Nat) (u : Nat → Nat) (np : Nat) (no : Nat) (k : Nat) (c : Nat) (f : Nat → Int32) (o : Nat → Int32) (k2 : Nat) (c2 : Nat) (f2 : Nat → Int32) (o2 : Nat → Int32)  (hk : k2 ≤ np) (hc : 2 * c2 ≤ no) (hn : np < 2 ^ 20) (ho : no < 2 ^ 20) : YC l G y_S_takeFrom k_S_takeFrom 3 (Option.none : Option FieldType) 2 42 [.ref (h 0), .ref (u 0)] (wSS G h u np no k c f o k2 c2 f2 o2) (fun v w => v = none ∧ w = wSS G h u np no k2 c2 (tkF f f2 k2) (tkF o o2 (2 * c2)) k2 c2 f2 o2) (fun _ _ => False) := by
  refine yc_of (by decide) ?_
  intro pg ev sx mm bl mt cd A C0 hP hD
  obtain ⟨hx, hb, hrt, hml, hown, hg, hlocks, hxt, hE, hK, hA, hmn⟩ := C0
  have hS : va_S A sx.heap sx.heap [] := va_S.rf
  have hl := lv_entry ([.ref (h 0), .ref (u 0)]) (n := 3) (Nat.le_of_ble_eq_true rfl)
  rw [lg_entry_eq]
  generalize (lg_sl ([.ref (h 0), .ref (u 0)]) ++ List.replicate (3 - (lg_sl ([.ref (h 0), .ref (u 0)])).length) Slot.unset).toArray = ls at hl ⊢
  have hl : lv_has ls 3 [(0, .ref (h 0)), (1, .ref (u 0))] := hl
  obtain ⟨H, hH⟩ : ∃ H, H = sx.heap := ⟨_, rfl⟩
  rw [← hH] at hP
  have hS : va_S A sx.heap H [] := by rw [hH]; exact hS
  suffices h9 : W pg l ev (yR 2 42) sx mm _ bl mt cd H [] 0 0 (yMQ bl G A _ _ _ _ sx) (F0 mm 0 ls []) by rw [hH] at h9; exact h9
  obtain ⟨locs, hlo⟩ : ∃ locs : List Loc, locs = [] := ⟨_, rfl⟩
  rw [← hlo] at hS ⊢
  have J32 : ∀ (n9 : Nat) (i : Nat) (hm9 : c2 - i < n9) (hi : i ≤ c2) (H : Heap) (locs : List Loc) (ls : Array Slot), va_P (gD G) vwC (wSS G h u np no k2 i (tkF f f2 k2) (tkF o o2 (2 * i)) k2 c2 f2 o2) H → va_D A (wSS G h u np no k2 i (tkF f f2 k2) (tkF o o2 (2 * i)) k2 c2 f2 o2) → va_S A sx.heap H locs → lv_has ls 3 [(0, .ref (h 0)), (1, .ref (u 0)), (2, .int (nI i))] → W pg l ev (yR 2 42) sx mm ([.ref (h 0), .ref (u 0)] : List Value).toArray bl mt cd H locs 0 0 (yMQ bl G A (wSS G h u np no k c f o k2 c2 f2 o2).length (fun v w => v = none ∧ w = wSS G h u np no k2 c2 (tkF f f2 k2) (tkF o o2 (2 * c2)) k2 c2 f2 o2) (fun _ _ => False) ([.ref (h 0), .ref (u 0)] : List Value).toArray sx) (F0 mm 32 ls []) := by
    intro n9
    induction n9 with
    | zero => intro i hm9; exact absurd hm9 (Nat.not_lt_zero _)
    | succ n9 ih9 =>
      intro i hm9 hi H locs ls hP hD hS hl
      refine lv_iload_n hx hb d_S_takeFrom_32 rfl (lv_at hl 2 rfl) ?_
      refine lv_aload_n hx hb d_S_takeFrom_33 rfl (lv_at hl 1 rfl) ?_
      refine va_get (D := gD G) (ci := 2) (v := .int (nI c2)) (C := "WordShapes$Shape") (T := TS) (N := 4) hx hb hg iw_S hown hK hP 3 rfl rfl 3 (by decide) (hg _ tk_47) (fun _ h9 => h9) rfl d_S_takeFrom_34 ?_
      refine yn_icmp_ge (a := i) (b := c2) (tgt := 68) hx hb d_S_takeFrom_37 (by decide) (by omega) (by omega) (fun c37 => ?_) (fun c37 => ?_)
      · skip
        have e9 : i = c2 := by omega
        rw [e9] at hP hD
        exact yr_v (ws := wSS G h u np no k2 c2 (tkF f f2 k2) (tkF o o2 (2 * c2)) k2 c2 f2 o2) hx hb hrt hlocks (⟨rfl, rfl⟩) rfl hK hP hD hS d_S_takeFrom_68
      · skip
        refine lv_aload_n hx hb d_S_takeFrom_40 rfl (lv_at hl 0 rfl) ?_
        refine lv_aload_n hx hb d_S_takeFrom_41 rfl (lv_at hl 1 rfl) ?_
        refine va_get (D := gD G) (ci := 2) (v := .ref (u 2)) (C := "WordShapes$Shape") (T := TS) (N := 4) hx hb hg iw_S hown hK hP 3 rfl rfl 1 (by decide) (hg _ tk_42) (fun _ h9 => h9) rfl d_S_takeFrom_42 ?_
        refine lv_iconst (v := nI 2) hx hb d_S_takeFrom_45 (by decide) ?_
        refine lv_iload_n hx hb d_S_takeFrom_46 rfl (lv_at hl 2 rfl) ?_
        refine lv_imul hx hb d_S_takeFrom_47 ?_
        refine y_eqi (pk_mul _ _) ?_
        refine yn_iald hx hb hK hP 5 0 rfl rfl (j := 2 * i) (x := o2 (2 * i)) (rfl) (by omega) (by omega) d_S_takeFrom_48 ?_
        refine lv_aload_n hx hb d_S_takeFrom_49 rfl (lv_at hl 1 rfl) ?_
        refine va_get (D := gD G) (ci := 2) (v := .ref (u 2)) (C := "WordShapes$Shape") (T := TS) (N := 4) hx hb hg iw_S hown hK hP 3 rfl rfl 1 (by decide) (hg _ tk_42) (fun _ h9 => h9) rfl d_S_takeFrom_50 ?_
        refine lv_iconst (v := nI 2) hx hb d_S_takeFrom_53 (by decide) ?_
        refine lv_iload_n hx hb d_S_takeFrom_54 rfl (lv_at hl 2 rfl) ?_
        refine lv_imul hx hb d_S_takeFrom_55 ?_
        refine y_eqi (pk_mul _ _) ?_
        refine lv_iconst (v := nI 1) hx hb d_S_takeFrom_56 (by decide) ?_
        refine lv_iadd hx hb d_S_takeFrom_57 ?_
        refine y_eqi (nI_add _ _) ?_
        refine yn_iald hx hb hK hP 5 0 rfl rfl (j := 2 * i + 1) (x := o2 (2 * i + 1)) (rfl) (by omega) (by omega) d_S_takeFrom_58 ?_
        refine y_call (y_runV (As := [.int (o2 (2 * i)), .int (o2 (2 * i + 1))]) (rest := []) hx hb hml hown (c_S_addPoint l G h np no k2 i (tkF f f2 k2) (tkF o o2 (2 * i)) (o2 (2 * i)) (o2 (2 * i + 1)) (by omega) (by omega)) (gV (n := 2) hg tk_536 tk_514 tk_515 tk_3 tk_516 (by decide +kernel) ⟨Nat.le_of_ble_eq_true rfl, Nat.le_of_ble_eq_true rfl⟩) (va_recv hK hP (ci := 2) (q0 := 0) rfl rfl) (y_pre hE hK hP hD hS hA [0, 1, 2] rfl rfl) rfl rfl hl.1 rfl (lv_room (Nat.le_of_ble_eq_true rfl)) d_S_takeFrom_59 ⟨Nat.le_of_ble_eq_true rfl, Nat.le_of_ble_eq_true rfl⟩) hP hD hS hA [0, 1, 2] rfl (fun _ _ _ _ _ _ hp => False.elim hp) (fun v w H locs hp hlw hP hD hS => ?_)
        obtain ⟨rfl, rfl⟩ := hp
        have hP : va_P (gD G) vwC (wSS G h u np no k2 (i + 1) (tkF f f2 k2) (upd (upd (tkF o o2 (2 * i)) (2 * i) (o2 (2 * i))) (2 * i + 1) (o2 (2 * i + 1))) k2 c2 f2 o2) H := hP
        have hD : va_D A (wSS G h u np no k2 (i + 1) (tkF f f2 k2) (upd (upd (tkF o o2 (2 * i)) (2 * i) (o2 (2 * i))) (2 * i + 1) (o2 (2 * i + 1))) k2 c2 f2 o2) := hD
        refine W.eq (g2 := F0 mm 62 ls []) rfl ?_
        rw [tkF_s2] at hP hD
        refine lv_iinc (v := nI (i + 1)) (lv' := [(2, .int (nI (i + 1))), (0, .ref (h 0)), (1, .ref (u 0))]) hx hb d_S_takeFrom_62 hl (k := 2) rfl (y_inc _) (by decide) rfl (fun ls hl => ?_)
        refine lv_goto (tgt := 32) hx hb d_S_takeFrom_65 (by decide) ?_
        exact ih9 (i + 1) (by omega) (by omega) _ _ _ hP hD hS (lv_sub hl [1, 2, 0] rfl)
  have J6 : ∀ (n9 : Nat) (i : Nat) (hm9 : k2 - i < n9) (hi : i ≤ k2) (H : Heap) (locs : List Loc) (ls : Array Slot), va_P (gD G) vwC (wSS G h u np no i 0 (tkF f f2 i) o k2 c2 f2 o2) H → va_D A (wSS G h u np no i 0 (tkF f f2 i) o k2 c2 f2 o2) → va_S A sx.heap H locs → lv_has ls 3 [(0, .ref (h 0)), (1, .ref (u 0)), (2, .int (nI i))] → W pg l ev (yR 2 42) sx mm ([.ref (h 0), .ref (u 0)] : List Value).toArray bl mt cd H locs 0 0 (yMQ bl G A (wSS G h u np no k c f o k2 c2 f2 o2).length (fun v w => v = none ∧ w = wSS G h u np no k2 c2 (tkF f f2 k2) (tkF o o2 (2 * c2)) k2 c2 f2 o2) (fun _ _ => False) ([.ref (h 0), .ref (u 0)] : List Value).toArray sx) (F0 mm 6 ls []) := by
    intro n9
    induction n9 with
    | zero => intro i hm9; exact absurd hm9 (Nat.not_lt_zero _)
    | succ n9 ih9 =>
      intro i hm9 hi H locs ls hP hD hS hl
      refine lv_iload_n hx hb d_S_takeFrom_6 rfl (lv_at hl 2 rfl) ?_
      refine lv_aload_n hx hb d_S_takeFrom_7 rfl (lv_at hl 1 rfl) ?_
      refine va_get (D := gD G) (ci := 2) (v := .int (nI k2)) (C := "WordShapes$Shape") (T := TS) (N := 4) hx hb hg iw_S hown hK hP 3 rfl rfl 2 (by decide) (hg _ tk_43) (fun _ h9 => h9) rfl d_S_takeFrom_8 ?_
      refine yn_icmp_ge (a := i) (b := k2) (tgt := 30) hx hb d_S_takeFrom_11 (by decide) (by omega) (by omega) (fun c11 => ?_) (fun c11 => ?_)
      · skip
        refine lv_iconst (v := nI 0) hx hb d_S_takeFrom_30 (by decide) ?_
        refine lv_istore_n (lv' := [(2, .int (nI 0)), (0, .ref (h 0)), (1, .ref (u 0))]) hx hb d_S_takeFrom_31 rfl hl (by decide) rfl (fun ls hl => ?_)
        obtain rfl : i = k2 := by omega
        rw [← tkF_0 o o2] at hP hD
        exact J32 _ 0 (Nat.lt_succ_self _) (by omega) _ _ _ hP hD hS (lv_sub hl [1, 2, 0] rfl)
      · skip
        refine lv_aload_n hx hb d_S_takeFrom_14 rfl (lv_at hl 0 rfl) ?_
        refine lv_aload_n hx hb d_S_takeFrom_15 rfl (lv_at hl 1 rfl) ?_
        refine va_get (D := gD G) (ci := 2) (v := .ref (u 1)) (C := "WordShapes$Shape") (T := TS) (N := 4) hx hb hg iw_S hown hK hP 3 rfl rfl 0 (by decide) (hg _ tk_41) (fun _ h9 => h9) rfl d_S_takeFrom_16 ?_
        refine lv_iload_n hx hb d_S_takeFrom_19 rfl (lv_at hl 2 rfl) ?_
        refine yn_iald hx hb hK hP 4 0 rfl rfl (j := i) (x := f2 i) (rfl) (by omega) (by omega) d_S_takeFrom_20 ?_
        refine y_call (y_runV (As := [.int (f2 i)]) (rest := []) hx hb hml hown (c_S_addNumber l G h np no i 0 (tkF f f2 i) o (f2 i) (by omega) (by omega)) (gV (n := 1) hg tk_535 tk_456 tk_457 tk_3 tk_458 (by decide +kernel) ⟨Nat.le_of_ble_eq_true rfl, Nat.le_of_ble_eq_true rfl⟩) (va_recv hK hP (ci := 2) (q0 := 0) rfl rfl) (y_pre hE hK hP hD hS hA [0, 1, 2] rfl rfl) rfl rfl hl.1 rfl (lv_room (Nat.le_of_ble_eq_true rfl)) d_S_takeFrom_21 ⟨Nat.le_of_ble_eq_true rfl, Nat.le_of_ble_eq_true rfl⟩) hP hD hS hA [0, 1, 2] rfl (fun _ _ _ _ _ _ hp => False.elim hp) (fun v w H locs hp hlw hP hD hS => ?_)
        obtain ⟨rfl, rfl⟩ := hp
        have hP : va_P (gD G) vwC (wSS G h u np no (i + 1) 0 (upd (tkF f f2 i) i (f2 i)) o k2 c2 f2 o2) H := hP
        have hD : va_D A (wSS G h u np no (i + 1) 0 (upd (tkF f f2 i) i (f2 i)) o k2 c2 f2 o2) := hD
        refine W.eq (g2 := F0 mm 24 ls []) rfl ?_
        rw [tkF_s] at hP hD
        refine lv_iinc (v := nI (i + 1)) (lv' := [(2, .int (nI (i + 1))), (0, .ref (h 0)), (1, .ref (u 0))]) hx hb d_S_takeFrom_24 hl (k := 2) rfl (y_inc _) (by decide) rfl (fun ls hl => ?_)
        refine lv_goto (tgt := 6) hx hb d_S_takeFrom_27 (by decide) ?_
        exact ih9 (i + 1) (by omega) (by omega) _ _ _ hP hD hS (lv_sub hl [1, 2, 0] rfl)
  refine lv_aload_n hx hb d_S_takeFrom_0 rfl (lv_at hl 0 rfl) ?_
  refine y_call (y_runV (As := []) (rest := []) hx hb hml hown (c_S_clear l G h np no k c f o  ) (gV (n := 0) hg tk_534 tk_316 tk_317 tk_3 tk_318 (by decide +kernel) ⟨Nat.le_of_ble_eq_true rfl, Nat.le_of_ble_eq_true rfl⟩) (va_recv hK hP (ci := 2) (q0 := 0) rfl rfl) (y_pre hE hK hP hD hS hA [0, 1, 2] rfl rfl) rfl rfl hl.1 rfl (lv_room (Nat.le_of_ble_eq_true rfl)) d_S_takeFrom_1 ⟨Nat.le_of_ble_eq_true rfl, Nat.le_of_ble_eq_true rfl⟩) hP hD hS hA [0, 1, 2] rfl (fun _ _ _ _ _ _ hp => False.elim hp) (fun v w H locs hp hlw hP hD hS => ?_)
  obtain ⟨rfl, rfl⟩ := hp
  have hP : va_P (gD G) vwC (wSS G h u np no 0 0 f o k2 c2 f2 o2) H := hP
  have hD : va_D A (wSS G h u np no 0 0 f o k2 c2 f2 o2) := hD
  refine W.eq (g2 := F0 mm 4 ls []) rfl ?_
  refine lv_iconst (v := nI 0) hx hb d_S_takeFrom_4 (by decide) ?_
  refine lv_istore_n (lv' := [(2, .int (nI 0)), (0, .ref (h 0)), (1, .ref (u 0))]) hx hb d_S_takeFrom_5 rfl hl (by decide) rfl (fun ls hl => ?_)
  rw [← tkF_0 f f2] at hP hD
  exact J6 _ 0 (Nat.lt_succ_self _) (by omega) _ _ _ hP hD hS (lv_sub hl [1, 2, 0] rfl)
set_option maxHeartbeats 4000000 in
set_option maxRecDepth 100000 in
theorem c_S_isLike (l : Launch) (G : gl) (h : Nat → Nat) (u : Nat → Nat) (np : Nat) (no : Nat) (k : Nat) (c : Nat) (f : Nat → Int32) (o : Nat → Int32) (k2 : Nat) (c2 : Nat) (f2 : Nat → Int32) (o2 : Nat → Int32)  (hk : k ≤ np) (hc : 2 * c ≤ no) (hk2 : k2 ≤ np) (hc2 : 2 * c2 ≤ no) (hn : np < 2 ^ 20) (ho : no < 2 ^ 20) : YC l G y_S_isLike k_S_isLike 3 (Option.some FieldType.boolean) 0 0 [.ref (h 0), .ref (u 0)] (wSS G h u np no k c f o k2 c2 f2 o2) (fun v w => v = some (.int (bz (decide (k = k2 ∧ c = c2 ∧ (∀ j, j < k → f j = f2 j) ∧ ∀ j, j < 2 * c → o j = o2 j)))) ∧ w = wSS G h u np no k c f o k2 c2 f2 o2) (fun _ _ => False) := by
  refine yc_of (by decide) ?_
  intro pg ev sx mm bl mt cd A C0 hP hD
  obtain ⟨hx, hb, hrt, hml, hown, hg, hlocks, hxt, hE, hK, hA, hmn⟩ := C0
  have hS : va_S A sx.heap sx.heap [] := va_S.rf
  have hl := lv_entry ([.ref (h 0), .ref (u 0)]) (n := 3) (Nat.le_of_ble_eq_true rfl)
  rw [lg_entry_eq]
  generalize (lg_sl ([.ref (h 0), .ref (u 0)]) ++ List.replicate (3 - (lg_sl ([.ref (h 0), .ref (u 0)])).length) Slot.unset).toArray = ls at hl ⊢
  have hl : lv_has ls 3 [(0, .ref (h 0)), (1, .ref (u 0))] := hl
  obtain ⟨H, hH⟩ : ∃ H, H = sx.heap := ⟨_, rfl⟩
  rw [← hH] at hP
  have hS : va_S A sx.heap H [] := by rw [hH]; exact hS
  suffices h9 : W pg l ev (yR 0 0) sx mm _ bl mt cd H [] 0 0 (yMQ bl G A _ _ _ _ sx) (F0 mm 0 ls []) by rw [hH] at h9; exact h9
  obtain ⟨locs, hlo⟩ : ∃ locs : List Loc, locs = [] := ⟨_, rfl⟩
  rw [← hlo] at hS ⊢
  have J59 : ∀ (n9 : Nat) (i : Nat) (hm9 : 2 * c - i < n9) (e1 : k = k2) (e2 : c = c2) (hi : i ≤ 2 * c) (hf : ∀ j, j < k → f j = f2 j) (hq : ∀ j, j < i → o j = o2 j) (H : Heap) (locs : List Loc) (ls : Array Slot), va_P (gD G) vwC (wSS G h u np no k c f o k2 c2 f2 o2) H → va_D A (wSS G h u np no k c f o k2 c2 f2 o2) → va_S A sx.heap H locs → lv_has ls 3 [(0, .ref (h 0)), (1, .ref (u 0)), (2, .int (nI i))] → W pg l ev (yR 0 0) sx mm ([.ref (h 0), .ref (u 0)] : List Value).toArray bl mt cd H locs 0 0 (yMQ bl G A (wSS G h u np no k c f o k2 c2 f2 o2).length (fun v w => v = some (.int (bz (decide (k = k2 ∧ c = c2 ∧ (∀ j, j < k → f j = f2 j) ∧ ∀ j, j < 2 * c → o j = o2 j)))) ∧ w = wSS G h u np no k c f o k2 c2 f2 o2) (fun _ _ => False) ([.ref (h 0), .ref (u 0)] : List Value).toArray sx) (F0 mm 59 ls []) := by
    intro n9
    induction n9 with
    | zero => intro i hm9; exact absurd hm9 (Nat.not_lt_zero _)
    | succ n9 ih9 =>
      intro i hm9 e1 e2 hi hf hq H locs ls hP hD hS hl
      refine lv_iload_n hx hb d_S_isLike_59 rfl (lv_at hl 2 rfl) ?_
      refine lv_iconst (v := nI 2) hx hb d_S_isLike_60 (by decide) ?_
      refine lv_aload_n hx hb d_S_isLike_61 rfl (lv_at hl 0 rfl) ?_
      refine va_get (D := gD G) (ci := 2) (v := .int (nI c)) (C := "WordShapes$Shape") (T := TS) (N := 4) hx hb hg iw_S hown hK hP 0 rfl rfl 3 (by decide) (hg _ tk_47) (fun _ h9 => h9) rfl d_S_isLike_62 ?_
      refine lv_imul hx hb d_S_isLike_65 ?_
      refine y_eqi (pk_mul _ _) ?_
      refine yn_icmp_ge (a := i) (b := 2 * c) (tgt := 92) hx hb d_S_isLike_66 (by decide) (by omega) (by omega) (fun c66 => ?_) (fun c66 => ?_)
      · skip
        refine lv_iconst (v := nI 1) hx hb d_S_isLike_92 (by decide) ?_
        exact yr_z (ws := wSS G h u np no k c f o k2 c2 f2 o2) hx hb hrt (rfl) hlocks (⟨congrArg (fun z => some (Value.int z)) (bz_t (by first | (intro q9; exact absurd q9.1 (by omega)) | (intro q9; exact absurd q9.2.1 (by omega)) | (intro q9; exact absurd (q9.2.2.1 i (by omega)) (by assumption)) | (intro q9; exact absurd (q9.2.2.2 i (by omega)) (by assumption)) | exact ⟨by omega, by omega, hf, fun j hj => hq j (by omega)⟩)), rfl⟩) rfl hK hP hD hS d_S_isLike_93
      · skip
        refine lv_aload_n hx hb d_S_isLike_69 rfl (lv_at hl 0 rfl) ?_
        refine va_get (D := gD G) (ci := 2) (v := .ref (h 2)) (C := "WordShapes$Shape") (T := TS) (N := 4) hx hb hg iw_S hown hK hP 0 rfl rfl 1 (by decide) (hg _ tk_42) (fun _ h9 => h9) rfl d_S_isLike_70 ?_
        refine lv_iload_n hx hb d_S_isLike_73 rfl (lv_at hl 2 rfl) ?_
        refine yn_iald hx hb hK hP 2 0 rfl rfl (j := i) (x := o i) (rfl) (by omega) (by omega) d_S_isLike_74 ?_
        refine lv_aload_n hx hb d_S_isLike_75 rfl (lv_at hl 1 rfl) ?_
        refine va_get (D := gD G) (ci := 2) (v := .ref (u 2)) (C := "WordShapes$Shape") (T := TS) (N := 4) hx hb hg iw_S hown hK hP 3 rfl rfl 1 (by decide) (hg _ tk_42) (fun _ h9 => h9) rfl d_S_isLike_76 ?_
        refine lv_iload_n hx hb d_S_isLike_79 rfl (lv_at hl 2 rfl) ?_
        refine yn_iald hx hb hK hP 5 0 rfl rfl (j := i) (x := o2 i) (rfl) (by omega) (by omega) d_S_isLike_80 ?_
        refine lv_icmp_eq (tgt := 86) hx hb d_S_isLike_81 (by decide) (fun c81 => ?_) (fun c81 => ?_)
        · skip
          refine lv_iinc (v := nI (i + 1)) (lv' := [(2, .int (nI (i + 1))), (0, .ref (h 0)), (1, .ref (u 0))]) hx hb d_S_isLike_86 hl (k := 2) rfl (y_inc _) (by decide) rfl (fun ls hl => ?_)
          refine lv_goto (tgt := 59) hx hb d_S_isLike_89 (by decide) ?_
          exact ih9 (i + 1) (by omega) (by omega) (by omega) (by omega) (hf) (lt_s hq c81) _ _ _ hP hD hS (lv_sub hl [1, 2, 0] rfl)
        · skip
          refine lv_iconst (v := nI 0) hx hb d_S_isLike_84 (by decide) ?_
          exact yr_z (ws := wSS G h u np no k c f o k2 c2 f2 o2) hx hb hrt (rfl) hlocks (⟨congrArg (fun z => some (Value.int z)) (bz_f (by first | (intro q9; exact absurd q9.1 (by omega)) | (intro q9; exact absurd q9.2.1 (by omega)) | (intro q9; exact absurd (q9.2.2.1 i (by omega)) (by assumption)) | (intro q9; exact absurd (q9.2.2.2 i (by omega)) (by assumption)) | exact ⟨by omega, by omega, hf, fun j hj => hq j (by omega)⟩)), rfl⟩) rfl hK hP hD hS d_S_isLike_85
  have J26 : ∀ (n9 : Nat) (i : Nat) (hm9 : k - i < n9) (e1 : k = k2) (e2 : c = c2) (hi : i ≤ k) (hq : ∀ j, j < i → f j = f2 j) (H : Heap) (locs : List Loc) (ls : Array Slot), va_P (gD G) vwC (wSS G h u np no k c f o k2 c2 f2 o2) H → va_D A (wSS G h u np no k c f o k2 c2 f2 o2) → va_S A sx.heap H locs → lv_has ls 3 [(0, .ref (h 0)), (1, .ref (u 0)), (2, .int (nI i))] → W pg l ev (yR 0 0) sx mm ([.ref (h 0), .ref (u 0)] : List Value).toArray bl mt cd H locs 0 0 (yMQ bl G A (wSS G h u np no k c f o k2 c2 f2 o2).length (fun v w => v = some (.int (bz (decide (k = k2 ∧ c = c2 ∧ (∀ j, j < k → f j = f2 j) ∧ ∀ j, j < 2 * c → o j = o2 j)))) ∧ w = wSS G h u np no k c f o k2 c2 f2 o2) (fun _ _ => False) ([.ref (h 0), .ref (u 0)] : List Value).toArray sx) (F0 mm 26 ls []) := by
    intro n9
    induction n9 with
    | zero => intro i hm9; exact absurd hm9 (Nat.not_lt_zero _)
    | succ n9 ih9 =>
      intro i hm9 e1 e2 hi hq H locs ls hP hD hS hl
      refine lv_iload_n hx hb d_S_isLike_26 rfl (lv_at hl 2 rfl) ?_
      refine lv_aload_n hx hb d_S_isLike_27 rfl (lv_at hl 0 rfl) ?_
      refine va_get (D := gD G) (ci := 2) (v := .int (nI k)) (C := "WordShapes$Shape") (T := TS) (N := 4) hx hb hg iw_S hown hK hP 0 rfl rfl 2 (by decide) (hg _ tk_43) (fun _ h9 => h9) rfl d_S_isLike_28 ?_
      refine yn_icmp_ge (a := i) (b := k) (tgt := 57) hx hb d_S_isLike_31 (by decide) (by omega) (by omega) (fun c31 => ?_) (fun c31 => ?_)
      · skip
        refine lv_iconst (v := nI 0) hx hb d_S_isLike_57 (by decide) ?_
        refine lv_istore_n (lv' := [(2, .int (nI 0)), (0, .ref (h 0)), (1, .ref (u 0))]) hx hb d_S_isLike_58 rfl hl (by decide) rfl (fun ls hl => ?_)
        exact J59 _ 0 (Nat.lt_succ_self _) (by omega) (by omega) (by omega) (fun j hj => hq j (by omega)) (lt_0) _ _ _ hP hD hS (lv_sub hl [1, 2, 0] rfl)
      · skip
        refine lv_aload_n hx hb d_S_isLike_34 rfl (lv_at hl 0 rfl) ?_
        refine va_get (D := gD G) (ci := 2) (v := .ref (h 1)) (C := "WordShapes$Shape") (T := TS) (N := 4) hx hb hg iw_S hown hK hP 0 rfl rfl 0 (by decide) (hg _ tk_41) (fun _ h9 => h9) rfl d_S_isLike_35 ?_
        refine lv_iload_n hx hb d_S_isLike_38 rfl (lv_at hl 2 rfl) ?_
        refine yn_iald hx hb hK hP 1 0 rfl rfl (j := i) (x := f i) (rfl) (by omega) (by omega) d_S_isLike_39 ?_
        refine lv_aload_n hx hb d_S_isLike_40 rfl (lv_at hl 1 rfl) ?_
        refine va_get (D := gD G) (ci := 2) (v := .ref (u 1)) (C := "WordShapes$Shape") (T := TS) (N := 4) hx hb hg iw_S hown hK hP 3 rfl rfl 0 (by decide) (hg _ tk_41) (fun _ h9 => h9) rfl d_S_isLike_41 ?_
        refine lv_iload_n hx hb d_S_isLike_44 rfl (lv_at hl 2 rfl) ?_
        refine yn_iald hx hb hK hP 4 0 rfl rfl (j := i) (x := f2 i) (rfl) (by omega) (by omega) d_S_isLike_45 ?_
        refine lv_icmp_eq (tgt := 51) hx hb d_S_isLike_46 (by decide) (fun c46 => ?_) (fun c46 => ?_)
        · skip
          refine lv_iinc (v := nI (i + 1)) (lv' := [(2, .int (nI (i + 1))), (0, .ref (h 0)), (1, .ref (u 0))]) hx hb d_S_isLike_51 hl (k := 2) rfl (y_inc _) (by decide) rfl (fun ls hl => ?_)
          refine lv_goto (tgt := 26) hx hb d_S_isLike_54 (by decide) ?_
          exact ih9 (i + 1) (by omega) (by omega) (by omega) (by omega) (lt_s hq c46) _ _ _ hP hD hS (lv_sub hl [1, 2, 0] rfl)
        · skip
          refine lv_iconst (v := nI 0) hx hb d_S_isLike_49 (by decide) ?_
          exact yr_z (ws := wSS G h u np no k c f o k2 c2 f2 o2) hx hb hrt (rfl) hlocks (⟨congrArg (fun z => some (Value.int z)) (bz_f (by first | (intro q9; exact absurd q9.1 (by omega)) | (intro q9; exact absurd q9.2.1 (by omega)) | (intro q9; exact absurd (q9.2.2.1 i (by omega)) (by assumption)) | (intro q9; exact absurd (q9.2.2.2 i (by omega)) (by assumption)) | exact ⟨by omega, by omega, hf, fun j hj => hq j (by omega)⟩)), rfl⟩) rfl hK hP hD hS d_S_isLike_50
  refine lv_aload_n hx hb d_S_isLike_0 rfl (lv_at hl 0 rfl) ?_
  refine va_get (D := gD G) (ci := 2) (v := .int (nI k)) (C := "WordShapes$Shape") (T := TS) (N := 4) hx hb hg iw_S hown hK hP 0 rfl rfl 2 (by decide) (hg _ tk_43) (fun _ h9 => h9) rfl d_S_isLike_1 ?_
  refine lv_aload_n hx hb d_S_isLike_4 rfl (lv_at hl 1 rfl) ?_
  refine va_get (D := gD G) (ci := 2) (v := .int (nI k2)) (C := "WordShapes$Shape") (T := TS) (N := 4) hx hb hg iw_S hown hK hP 3 rfl rfl 2 (by decide) (hg _ tk_43) (fun _ h9 => h9) rfl d_S_isLike_5 ?_
  refine yn_icmp_ne (a := k) (b := k2) (tgt := 22) hx hb d_S_isLike_8 (by decide) (by omega) (by omega) (fun c8 => ?_) (fun c8 => ?_)
  · skip
    refine lv_iconst (v := nI 0) hx hb d_S_isLike_22 (by decide) ?_
    exact yr_z (ws := wSS G h u np no k c f o k2 c2 f2 o2) hx hb hrt (rfl) hlocks (⟨congrArg (fun z => some (Value.int z)) (bz_f (by first | (intro q9; exact absurd q9.1 (by omega)) | (intro q9; exact absurd q9.2.1 (by omega)) | (intro q9; exact absurd (q9.2.2.1 i (by omega)) (by assumption)) | (intro q9; exact absurd (q9.2.2.2 i (by omega)) (by assumption)) | exact ⟨by omega, by omega, hf, fun j hj => hq j (by omega)⟩)), rfl⟩) rfl hK hP hD hS d_S_isLike_23
  · skip
    refine lv_aload_n hx hb d_S_isLike_11 rfl (lv_at hl 0 rfl) ?_
    refine va_get (D := gD G) (ci := 2) (v := .int (nI c)) (C := "WordShapes$Shape") (T := TS) (N := 4) hx hb hg iw_S hown hK hP 0 rfl rfl 3 (by decide) (hg _ tk_47) (fun _ h9 => h9) rfl d_S_isLike_12 ?_
    refine lv_aload_n hx hb d_S_isLike_15 rfl (lv_at hl 1 rfl) ?_
    refine va_get (D := gD G) (ci := 2) (v := .int (nI c2)) (C := "WordShapes$Shape") (T := TS) (N := 4) hx hb hg iw_S hown hK hP 3 rfl rfl 3 (by decide) (hg _ tk_47) (fun _ h9 => h9) rfl d_S_isLike_16 ?_
    refine yn_icmp_eq (a := c) (b := c2) (tgt := 24) hx hb d_S_isLike_19 (by decide) (by omega) (by omega) (fun c19 => ?_) (fun c19 => ?_)
    · skip
      refine lv_iconst (v := nI 0) hx hb d_S_isLike_24 (by decide) ?_
      refine lv_istore_n (lv' := [(2, .int (nI 0)), (0, .ref (h 0)), (1, .ref (u 0))]) hx hb d_S_isLike_25 rfl hl (by decide) rfl (fun ls hl => ?_)
      exact J26 _ 0 (Nat.lt_succ_self _) (by omega) (by omega) (by omega) (lt_0) _ _ _ hP hD hS (lv_sub hl [1, 2, 0] rfl)
    · skip
      refine lv_iconst (v := nI 0) hx hb d_S_isLike_22 (by decide) ?_
      exact yr_z (ws := wSS G h u np no k c f o k2 c2 f2 o2) hx hb hrt (rfl) hlocks (⟨congrArg (fun z => some (Value.int z)) (bz_f (by first | (intro q9; exact absurd q9.1 (by omega)) | (intro q9; exact absurd q9.2.1 (by omega)) | (intro q9; exact absurd (q9.2.2.1 i (by omega)) (by assumption)) | (intro q9; exact absurd (q9.2.2.2 i (by omega)) (by assumption)) | exact ⟨by omega, by omega, hf, fun j hj => hq j (by omega)⟩)), rfl⟩) rfl hK hP hD hS d_S_isLike_23
end
section
theorem xo_W_55_59 : XOk "WordShapes" 55 59 "java/lang/IllegalStateException" := ⟨by decide, tk_190, tk_11, by decide +kernel, by decide +kernel, by decide +kernel⟩
theorem xo_R_194_198 : XOk "WordShapes$Reader" 194 198 "java/lang/IllegalArgumentException" := ⟨by decide, tk_374, tk_12, by decide +kernel, by decide +kernel, by decide +kernel⟩
set_option maxHeartbeats 4000000 in
set_option maxRecDepth 100000 in
theorem c_R_isBlank (l : Launch) (G : gl)  (b : Int32)  : YC l G y_R_isBlank k_R_isBlank 1 (Option.some FieldType.boolean) 0 0 [.int b] ([]) (fun v w => v = some (.int (bz (isBl b))) ∧ w = []) (fun _ _ => False) := by
  refine yc_of (by decide) ?_
  intro pg ev sx mm bl mt cd A C0 hP hD
  obtain ⟨hx, hb, hrt, hml, hown, hg, hlocks, hxt, hE, hK, hA, hmn⟩ := C0
  have hS : va_S A sx.heap sx.heap [] := va_S.rf
  have hl := lv_entry ([.int b]) (n := 1) (Nat.le_of_ble_eq_true rfl)
  rw [lg_entry_eq]
  generalize (lg_sl ([.int b]) ++ List.replicate (1 - (lg_sl ([.int b])).length) Slot.unset).toArray = ls at hl ⊢
  have hl : lv_has ls 1 [(0, .int b)] := hl
  obtain ⟨H, hH⟩ : ∃ H, H = sx.heap := ⟨_, rfl⟩
  rw [← hH] at hP
  have hS : va_S A sx.heap H [] := by rw [hH]; exact hS
  suffices h9 : W pg l ev (yR 0 0) sx mm _ bl mt cd H [] 0 0 (yMQ bl G A _ _ _ _ sx) (F0 mm 0 ls []) by rw [hH] at h9; exact h9
  obtain ⟨locs, hlo⟩ : ∃ locs : List Loc, locs = [] := ⟨_, rfl⟩
  rw [← hlo] at hS ⊢
  refine lv_iload_n hx hb d_R_isBlank_0 rfl (lv_at hl 0 rfl) ?_
  refine lv_bipush (v := nI 32) hx hb d_R_isBlank_1 (by decide) ?_
  refine lv_icmp_eq (tgt := 24) hx hb d_R_isBlank_3 (by decide) (fun c3 => ?_) (fun c3 => ?_)
  · skip
    refine lv_iconst (v := nI 1) hx hb d_R_isBlank_24 (by decide) ?_
    refine lv_goto (tgt := 29) hx hb d_R_isBlank_25 (by decide) ?_
    exact yr_z (ws := []) hx hb hrt (rfl) hlocks (⟨congrArg (fun z => some (Value.int z)) (bz_t (by first | exact Or.inl (by assumption) | exact Or.inr (Or.inl (by assumption)) | exact Or.inr (Or.inr (Or.inl (by assumption))) | exact Or.inr (Or.inr (Or.inr (by assumption))) | (intro z; rcases z with z | z | z | z <;> contradiction))), rfl⟩) rfl hK hP hD hS d_R_isBlank_29
  · skip
    refine lv_iload_n hx hb d_R_isBlank_6 rfl (lv_at hl 0 rfl) ?_
    refine lv_bipush (v := nI 9) hx hb d_R_isBlank_7 (by decide) ?_
    refine lv_icmp_eq (tgt := 24) hx hb d_R_isBlank_9 (by decide) (fun c9 => ?_) (fun c9 => ?_)
    · skip
      refine lv_iconst (v := nI 1) hx hb d_R_isBlank_24 (by decide) ?_
      refine lv_goto (tgt := 29) hx hb d_R_isBlank_25 (by decide) ?_
      exact yr_z (ws := []) hx hb hrt (rfl) hlocks (⟨congrArg (fun z => some (Value.int z)) (bz_t (by first | exact Or.inl (by assumption) | exact Or.inr (Or.inl (by assumption)) | exact Or.inr (Or.inr (Or.inl (by assumption))) | exact Or.inr (Or.inr (Or.inr (by assumption))) | (intro z; rcases z with z | z | z | z <;> contradiction))), rfl⟩) rfl hK hP hD hS d_R_isBlank_29
    · skip
      refine lv_iload_n hx hb d_R_isBlank_12 rfl (lv_at hl 0 rfl) ?_
      refine lv_bipush (v := nI 10) hx hb d_R_isBlank_13 (by decide) ?_
      refine lv_icmp_eq (tgt := 24) hx hb d_R_isBlank_15 (by decide) (fun c15 => ?_) (fun c15 => ?_)
      · skip
        refine lv_iconst (v := nI 1) hx hb d_R_isBlank_24 (by decide) ?_
        refine lv_goto (tgt := 29) hx hb d_R_isBlank_25 (by decide) ?_
        exact yr_z (ws := []) hx hb hrt (rfl) hlocks (⟨congrArg (fun z => some (Value.int z)) (bz_t (by first | exact Or.inl (by assumption) | exact Or.inr (Or.inl (by assumption)) | exact Or.inr (Or.inr (Or.inl (by assumption))) | exact Or.inr (Or.inr (Or.inr (by assumption))) | (intro z; rcases z with z | z | z | z <;> contradiction))), rfl⟩) rfl hK hP hD hS d_R_isBlank_29
      · skip
        refine lv_iload_n hx hb d_R_isBlank_18 rfl (lv_at hl 0 rfl) ?_
        refine lv_bipush (v := nI 13) hx hb d_R_isBlank_19 (by decide) ?_
        refine lv_icmp_ne (tgt := 28) hx hb d_R_isBlank_21 (by decide) (fun c21 => ?_) (fun c21 => ?_)
        · skip
          refine lv_iconst (v := nI 0) hx hb d_R_isBlank_28 (by decide) ?_
          exact yr_z (ws := []) hx hb hrt (rfl) hlocks (⟨congrArg (fun z => some (Value.int z)) (bz_f (by first | exact Or.inl (by assumption) | exact Or.inr (Or.inl (by assumption)) | exact Or.inr (Or.inr (Or.inl (by assumption))) | exact Or.inr (Or.inr (Or.inr (by assumption))) | (intro z; rcases z with z | z | z | z <;> contradiction))), rfl⟩) rfl hK hP hD hS d_R_isBlank_29
        · skip
          refine lv_iconst (v := nI 1) hx hb d_R_isBlank_24 (by decide) ?_
          refine lv_goto (tgt := 29) hx hb d_R_isBlank_25 (by decide) ?_
          exact yr_z (ws := []) hx hb hrt (rfl) hlocks (⟨congrArg (fun z => some (Value.int z)) (bz_t (by first | exact Or.inl (by assumption) | exact Or.inr (Or.inl (by assumption)) | exact Or.inr (Or.inr (Or.inl (by assumption))) | exact Or.inr (Or.inr (Or.inr (by assumption))) | (intro z; rcases z with z | z | z | z <;> contradiction))), rfl⟩) rfl hK hP hD hS d_R_isBlank_29
set_option maxHeartbeats 4000000 in
set_option maxRecDepth 100000 in
theorem c_R_isLetter (l : Launch) (G : gl)  (b : Int32)  : YC l G y_R_isLetter k_R_isLetter 1 (Option.some FieldType.boolean) 0 0 [.int b] ([]) (fun v w => v = some (.int (bz (isLe b))) ∧ w = []) (fun _ _ => False) := by
  refine yc_of (by decide) ?_
  intro pg ev sx mm bl mt cd A C0 hP hD
  obtain ⟨hx, hb, hrt, hml, hown, hg, hlocks, hxt, hE, hK, hA, hmn⟩ := C0
  have hS : va_S A sx.heap sx.heap [] := va_S.rf
  have hl := lv_entry ([.int b]) (n := 1) (Nat.le_of_ble_eq_true rfl)
  rw [lg_entry_eq]
  generalize (lg_sl ([.int b]) ++ List.replicate (1 - (lg_sl ([.int b])).length) Slot.unset).toArray = ls at hl ⊢
  have hl : lv_has ls 1 [(0, .int b)] := hl
  obtain ⟨H, hH⟩ : ∃ H, H = sx.heap := ⟨_, rfl⟩
  rw [← hH] at hP
  have hS : va_S A sx.heap H [] := by rw [hH]; exact hS
  suffices h9 : W pg l ev (yR 0 0) sx mm _ bl mt cd H [] 0 0 (yMQ bl G A _ _ _ _ sx) (F0 mm 0 ls []) by rw [hH] at h9; exact h9
  obtain ⟨locs, hlo⟩ : ∃ locs : List Loc, locs = [] := ⟨_, rfl⟩
  rw [← hlo] at hS ⊢
  refine lv_iload_n hx hb d_R_isLetter_0 rfl (lv_at hl 0 rfl) ?_
  refine lv_bipush (v := nI 65) hx hb d_R_isLetter_1 (by decide) ?_
  refine lv_icmp_lt (tgt := 12) hx hb d_R_isLetter_3 (by decide) (fun c3 => ?_) (fun c3 => ?_)
  · skip
    refine lv_iload_n hx hb d_R_isLetter_12 rfl (lv_at hl 0 rfl) ?_
    refine lv_bipush (v := nI 97) hx hb d_R_isLetter_13 (by decide) ?_
    refine lv_icmp_lt (tgt := 28) hx hb d_R_isLetter_15 (by decide) (fun c15 => ?_) (fun c15 => ?_)
    · skip
      refine lv_iconst (v := nI 0) hx hb d_R_isLetter_28 (by decide) ?_
      exact yr_z (ws := []) hx hb hrt (rfl) hlocks (⟨congrArg (fun z => some (Value.int z)) (bz_f (by first | exact Or.inl ⟨Int32.not_lt.mp c3, c9⟩ | exact Or.inr ⟨Int32.not_lt.mp c15, Int32.not_lt.mp c21⟩ | (intro z; rcases z with z | z <;> first | exact absurd z.1 (Int32.not_le.mpr c3) | exact absurd z.2 c9 | exact absurd z.1 (Int32.not_le.mpr c15) | exact absurd z.2 (Int32.not_le.mpr c21)))), rfl⟩) rfl hK hP hD hS d_R_isLetter_29
    · skip
      refine lv_iload_n hx hb d_R_isLetter_18 rfl (lv_at hl 0 rfl) ?_
      refine lv_bipush (v := nI 122) hx hb d_R_isLetter_19 (by decide) ?_
      refine lv_icmp_gt (tgt := 28) hx hb d_R_isLetter_21 (by decide) (fun c21 => ?_) (fun c21 => ?_)
      · skip
        refine lv_iconst (v := nI 0) hx hb d_R_isLetter_28 (by decide) ?_
        exact yr_z (ws := []) hx hb hrt (rfl) hlocks (⟨congrArg (fun z => some (Value.int z)) (bz_f (by first | exact Or.inl ⟨Int32.not_lt.mp c3, c9⟩ | exact Or.inr ⟨Int32.not_lt.mp c15, Int32.not_lt.mp c21⟩ | (intro z; rcases z with z | z <;> first | exact absurd z.1 (Int32.not_le.mpr c3) | exact absurd z.2 c9 | exact absurd z.1 (Int32.not_le.mpr c15) | exact absurd z.2 (Int32.not_le.mpr c21)))), rfl⟩) rfl hK hP hD hS d_R_isLetter_29
      · skip
        refine lv_iconst (v := nI 1) hx hb d_R_isLetter_24 (by decide) ?_
        refine lv_goto (tgt := 29) hx hb d_R_isLetter_25 (by decide) ?_
        exact yr_z (ws := []) hx hb hrt (rfl) hlocks (⟨congrArg (fun z => some (Value.int z)) (bz_t (by first | exact Or.inl ⟨Int32.not_lt.mp c3, c9⟩ | exact Or.inr ⟨Int32.not_lt.mp c15, Int32.not_lt.mp c21⟩ | (intro z; rcases z with z | z <;> first | exact absurd z.1 (Int32.not_le.mpr c3) | exact absurd z.2 c9 | exact absurd z.1 (Int32.not_le.mpr c15) | exact absurd z.2 (Int32.not_le.mpr c21)))), rfl⟩) rfl hK hP hD hS d_R_isLetter_29
  · skip
    refine lv_iload_n hx hb d_R_isLetter_6 rfl (lv_at hl 0 rfl) ?_
    refine lv_bipush (v := nI 90) hx hb d_R_isLetter_7 (by decide) ?_
    refine lv_icmp_le (tgt := 24) hx hb d_R_isLetter_9 (by decide) (fun c9 => ?_) (fun c9 => ?_)
    · skip
      refine lv_iconst (v := nI 1) hx hb d_R_isLetter_24 (by decide) ?_
      refine lv_goto (tgt := 29) hx hb d_R_isLetter_25 (by decide) ?_
      exact yr_z (ws := []) hx hb hrt (rfl) hlocks (⟨congrArg (fun z => some (Value.int z)) (bz_t (by first | exact Or.inl ⟨Int32.not_lt.mp c3, c9⟩ | exact Or.inr ⟨Int32.not_lt.mp c15, Int32.not_lt.mp c21⟩ | (intro z; rcases z with z | z <;> first | exact absurd z.1 (Int32.not_le.mpr c3) | exact absurd z.2 c9 | exact absurd z.1 (Int32.not_le.mpr c15) | exact absurd z.2 (Int32.not_le.mpr c21)))), rfl⟩) rfl hK hP hD hS d_R_isLetter_29
    · skip
      refine lv_iload_n hx hb d_R_isLetter_12 rfl (lv_at hl 0 rfl) ?_
      refine lv_bipush (v := nI 97) hx hb d_R_isLetter_13 (by decide) ?_
      refine lv_icmp_lt (tgt := 28) hx hb d_R_isLetter_15 (by decide) (fun c15 => ?_) (fun c15 => ?_)
      · skip
        refine lv_iconst (v := nI 0) hx hb d_R_isLetter_28 (by decide) ?_
        exact yr_z (ws := []) hx hb hrt (rfl) hlocks (⟨congrArg (fun z => some (Value.int z)) (bz_f (by first | exact Or.inl ⟨Int32.not_lt.mp c3, c9⟩ | exact Or.inr ⟨Int32.not_lt.mp c15, Int32.not_lt.mp c21⟩ | (intro z; rcases z with z | z <;> first | exact absurd z.1 (Int32.not_le.mpr c3) | exact absurd z.2 c9 | exact absurd z.1 (Int32.not_le.mpr c15) | exact absurd z.2 (Int32.not_le.mpr c21)))), rfl⟩) rfl hK hP hD hS d_R_isLetter_29
      · skip
        refine lv_iload_n hx hb d_R_isLetter_18 rfl (lv_at hl 0 rfl) ?_
        refine lv_bipush (v := nI 122) hx hb d_R_isLetter_19 (by decide) ?_
        refine lv_icmp_gt (tgt := 28) hx hb d_R_isLetter_21 (by decide) (fun c21 => ?_) (fun c21 => ?_)
        · skip
          refine lv_iconst (v := nI 0) hx hb d_R_isLetter_28 (by decide) ?_
          exact yr_z (ws := []) hx hb hrt (rfl) hlocks (⟨congrArg (fun z => some (Value.int z)) (bz_f (by first | exact Or.inl ⟨Int32.not_lt.mp c3, c9⟩ | exact Or.inr ⟨Int32.not_lt.mp c15, Int32.not_lt.mp c21⟩ | (intro z; rcases z with z | z <;> first | exact absurd z.1 (Int32.not_le.mpr c3) | exact absurd z.2 c9 | exact absurd z.1 (Int32.not_le.mpr c15) | exact absurd z.2 (Int32.not_le.mpr c21)))), rfl⟩) rfl hK hP hD hS d_R_isLetter_29
        · skip
          refine lv_iconst (v := nI 1) hx hb d_R_isLetter_24 (by decide) ?_
          refine lv_goto (tgt := 29) hx hb d_R_isLetter_25 (by decide) ?_
          exact yr_z (ws := []) hx hb hrt (rfl) hlocks (⟨congrArg (fun z => some (Value.int z)) (bz_t (by first | exact Or.inl ⟨Int32.not_lt.mp c3, c9⟩ | exact Or.inr ⟨Int32.not_lt.mp c15, Int32.not_lt.mp c21⟩ | (intro z; rcases z with z | z <;> first | exact absurd z.1 (Int32.not_le.mpr c3) | exact absurd z.2 c9 | exact absurd z.1 (Int32.not_le.mpr c15) | exact absurd z.2 (Int32.not_le.mpr c21)))), rfl⟩) rfl hK hP hD hS d_R_isLetter_29
set_option maxHeartbeats 4000000 in
set_option maxRecDepth 100000 in
theorem c_R_isDigit (l : Launch) (G : gl)  (b : Int32)  : YC l G y_R_isDigit k_R_isDigit 1 (Option.some FieldType.boolean) 0 0 [.int b] ([]) (fun v w => v = some (.int (bz (isDi b))) ∧ w = []) (fun _ _ => False) := by
  refine yc_of (by decide) ?_
  intro pg ev sx mm bl mt cd A C0 hP hD
  obtain ⟨hx, hb, hrt, hml, hown, hg, hlocks, hxt, hE, hK, hA, hmn⟩ := C0
  have hS : va_S A sx.heap sx.heap [] := va_S.rf
  have hl := lv_entry ([.int b]) (n := 1) (Nat.le_of_ble_eq_true rfl)
  rw [lg_entry_eq]
  generalize (lg_sl ([.int b]) ++ List.replicate (1 - (lg_sl ([.int b])).length) Slot.unset).toArray = ls at hl ⊢
  have hl : lv_has ls 1 [(0, .int b)] := hl
  obtain ⟨H, hH⟩ : ∃ H, H = sx.heap := ⟨_, rfl⟩
  rw [← hH] at hP
  have hS : va_S A sx.heap H [] := by rw [hH]; exact hS
  suffices h9 : W pg l ev (yR 0 0) sx mm _ bl mt cd H [] 0 0 (yMQ bl G A _ _ _ _ sx) (F0 mm 0 ls []) by rw [hH] at h9; exact h9
  obtain ⟨locs, hlo⟩ : ∃ locs : List Loc, locs = [] := ⟨_, rfl⟩
  rw [← hlo] at hS ⊢
  refine lv_iload_n hx hb d_R_isDigit_0 rfl (lv_at hl 0 rfl) ?_
  refine lv_bipush (v := nI 48) hx hb d_R_isDigit_1 (by decide) ?_
  refine lv_icmp_lt (tgt := 16) hx hb d_R_isDigit_3 (by decide) (fun c3 => ?_) (fun c3 => ?_)
  · skip
    refine lv_iconst (v := nI 0) hx hb d_R_isDigit_16 (by decide) ?_
    exact yr_z (ws := []) hx hb hrt (rfl) hlocks (⟨congrArg (fun z => some (Value.int z)) (bz_f (by first | exact ⟨Int32.not_lt.mp c3, Int32.not_lt.mp c9⟩ | (intro z; first | exact absurd z.1 (Int32.not_le.mpr c3) | exact absurd z.2 (Int32.not_le.mpr c9)))), rfl⟩) rfl hK hP hD hS d_R_isDigit_17
  · skip
    refine lv_iload_n hx hb d_R_isDigit_6 rfl (lv_at hl 0 rfl) ?_
    refine lv_bipush (v := nI 57) hx hb d_R_isDigit_7 (by decide) ?_
    refine lv_icmp_gt (tgt := 16) hx hb d_R_isDigit_9 (by decide) (fun c9 => ?_) (fun c9 => ?_)
    · skip
      refine lv_iconst (v := nI 0) hx hb d_R_isDigit_16 (by decide) ?_
      exact yr_z (ws := []) hx hb hrt (rfl) hlocks (⟨congrArg (fun z => some (Value.int z)) (bz_f (by first | exact ⟨Int32.not_lt.mp c3, Int32.not_lt.mp c9⟩ | (intro z; first | exact absurd z.1 (Int32.not_le.mpr c3) | exact absurd z.2 (Int32.not_le.mpr c9)))), rfl⟩) rfl hK hP hD hS d_R_isDigit_17
    · skip
      refine lv_iconst (v := nI 1) hx hb d_R_isDigit_12 (by decide) ?_
      refine lv_goto (tgt := 17) hx hb d_R_isDigit_13 (by decide) ?_
      exact yr_z (ws := []) hx hb hrt (rfl) hlocks (⟨congrArg (fun z => some (Value.int z)) (bz_t (by first | exact ⟨Int32.not_lt.mp c3, Int32.not_lt.mp c9⟩ | (intro z; first | exact absurd z.1 (Int32.not_le.mpr c3) | exact absurd z.2 (Int32.not_le.mpr c9)))), rfl⟩) rfl hK hP hD hS d_R_isDigit_17
set_option maxHeartbeats 4000000 in
set_option maxRecDepth 100000 in
theorem c_R_beginsNumber (l : Launch) (G : gl)  (b : Int32)  : YC l G y_R_beginsNumber k_R_beginsNumber 1 (Option.some FieldType.boolean) 0 0 [.int b] ([]) (fun v w => v = some (.int (bz (isNu b))) ∧ w = []) (fun _ _ => False) := by
  refine yc_of (by decide) ?_
  intro pg ev sx mm bl mt cd A C0 hP hD
  obtain ⟨hx, hb, hrt, hml, hown, hg, hlocks, hxt, hE, hK, hA, hmn⟩ := C0
  have hS : va_S A sx.heap sx.heap [] := va_S.rf
  have hl := lv_entry ([.int b]) (n := 1) (Nat.le_of_ble_eq_true rfl)
  rw [lg_entry_eq]
  generalize (lg_sl ([.int b]) ++ List.replicate (1 - (lg_sl ([.int b])).length) Slot.unset).toArray = ls at hl ⊢
  have hl : lv_has ls 1 [(0, .int b)] := hl
  obtain ⟨H, hH⟩ : ∃ H, H = sx.heap := ⟨_, rfl⟩
  rw [← hH] at hP
  have hS : va_S A sx.heap H [] := by rw [hH]; exact hS
  suffices h9 : W pg l ev (yR 0 0) sx mm _ bl mt cd H [] 0 0 (yMQ bl G A _ _ _ _ sx) (F0 mm 0 ls []) by rw [hH] at h9; exact h9
  obtain ⟨locs, hlo⟩ : ∃ locs : List Loc, locs = [] := ⟨_, rfl⟩
  rw [← hlo] at hS ⊢
  refine lv_iload_n hx hb d_R_beginsNumber_0 rfl (lv_at hl 0 rfl) ?_
  refine lv_bipush (v := nI 48) hx hb d_R_beginsNumber_1 (by decide) ?_
  refine lv_icmp_lt (tgt := 12) hx hb d_R_beginsNumber_3 (by decide) (fun c3 => ?_) (fun c3 => ?_)
  · skip
    refine lv_iload_n hx hb d_R_beginsNumber_12 rfl (lv_at hl 0 rfl) ?_
    refine lv_bipush (v := nI 43) hx hb d_R_beginsNumber_13 (by decide) ?_
    refine lv_icmp_eq (tgt := 30) hx hb d_R_beginsNumber_15 (by decide) (fun c15 => ?_) (fun c15 => ?_)
    · skip
      refine lv_iconst (v := nI 1) hx hb d_R_beginsNumber_30 (by decide) ?_
      refine lv_goto (tgt := 35) hx hb d_R_beginsNumber_31 (by decide) ?_
      exact yr_z (ws := []) hx hb hrt (rfl) hlocks (⟨congrArg (fun z => some (Value.int z)) (bz_t (by first | exact Or.inl ⟨Int32.not_lt.mp c3, c9⟩ | exact Or.inr (Or.inl (by assumption)) | exact Or.inr (Or.inr (Or.inl (by assumption))) | exact Or.inr (Or.inr (Or.inr (by assumption))) | (intro z; rcases z with z | z | z | z <;> first | contradiction | exact absurd z.1 (Int32.not_le.mpr c3) | exact absurd z.2 c9))), rfl⟩) rfl hK hP hD hS d_R_beginsNumber_35
    · skip
      refine lv_iload_n hx hb d_R_beginsNumber_18 rfl (lv_at hl 0 rfl) ?_
      refine lv_bipush (v := nI 45) hx hb d_R_beginsNumber_19 (by decide) ?_
      refine lv_icmp_eq (tgt := 30) hx hb d_R_beginsNumber_21 (by decide) (fun c21 => ?_) (fun c21 => ?_)
      · skip
        refine lv_iconst (v := nI 1) hx hb d_R_beginsNumber_30 (by decide) ?_
        refine lv_goto (tgt := 35) hx hb d_R_beginsNumber_31 (by decide) ?_
        exact yr_z (ws := []) hx hb hrt (rfl) hlocks (⟨congrArg (fun z => some (Value.int z)) (bz_t (by first | exact Or.inl ⟨Int32.not_lt.mp c3, c9⟩ | exact Or.inr (Or.inl (by assumption)) | exact Or.inr (Or.inr (Or.inl (by assumption))) | exact Or.inr (Or.inr (Or.inr (by assumption))) | (intro z; rcases z with z | z | z | z <;> first | contradiction | exact absurd z.1 (Int32.not_le.mpr c3) | exact absurd z.2 c9))), rfl⟩) rfl hK hP hD hS d_R_beginsNumber_35
      · skip
        refine lv_iload_n hx hb d_R_beginsNumber_24 rfl (lv_at hl 0 rfl) ?_
        refine lv_bipush (v := nI 46) hx hb d_R_beginsNumber_25 (by decide) ?_
        refine lv_icmp_ne (tgt := 34) hx hb d_R_beginsNumber_27 (by decide) (fun c27 => ?_) (fun c27 => ?_)
        · skip
          refine lv_iconst (v := nI 0) hx hb d_R_beginsNumber_34 (by decide) ?_
          exact yr_z (ws := []) hx hb hrt (rfl) hlocks (⟨congrArg (fun z => some (Value.int z)) (bz_f (by first | exact Or.inl ⟨Int32.not_lt.mp c3, c9⟩ | exact Or.inr (Or.inl (by assumption)) | exact Or.inr (Or.inr (Or.inl (by assumption))) | exact Or.inr (Or.inr (Or.inr (by assumption))) | (intro z; rcases z with z | z | z | z <;> first | contradiction | exact absurd z.1 (Int32.not_le.mpr c3) | exact absurd z.2 c9))), rfl⟩) rfl hK hP hD hS d_R_beginsNumber_35
        · skip
          refine lv_iconst (v := nI 1) hx hb d_R_beginsNumber_30 (by decide) ?_
          refine lv_goto (tgt := 35) hx hb d_R_beginsNumber_31 (by decide) ?_
          exact yr_z (ws := []) hx hb hrt (rfl) hlocks (⟨congrArg (fun z => some (Value.int z)) (bz_t (by first | exact Or.inl ⟨Int32.not_lt.mp c3, c9⟩ | exact Or.inr (Or.inl (by assumption)) | exact Or.inr (Or.inr (Or.inl (by assumption))) | exact Or.inr (Or.inr (Or.inr (by assumption))) | (intro z; rcases z with z | z | z | z <;> first | contradiction | exact absurd z.1 (Int32.not_le.mpr c3) | exact absurd z.2 c9))), rfl⟩) rfl hK hP hD hS d_R_beginsNumber_35
  · skip
    refine lv_iload_n hx hb d_R_beginsNumber_6 rfl (lv_at hl 0 rfl) ?_
    refine lv_bipush (v := nI 57) hx hb d_R_beginsNumber_7 (by decide) ?_
    refine lv_icmp_le (tgt := 30) hx hb d_R_beginsNumber_9 (by decide) (fun c9 => ?_) (fun c9 => ?_)
    · skip
      refine lv_iconst (v := nI 1) hx hb d_R_beginsNumber_30 (by decide) ?_
      refine lv_goto (tgt := 35) hx hb d_R_beginsNumber_31 (by decide) ?_
      exact yr_z (ws := []) hx hb hrt (rfl) hlocks (⟨congrArg (fun z => some (Value.int z)) (bz_t (by first | exact Or.inl ⟨Int32.not_lt.mp c3, c9⟩ | exact Or.inr (Or.inl (by assumption)) | exact Or.inr (Or.inr (Or.inl (by assumption))) | exact Or.inr (Or.inr (Or.inr (by assumption))) | (intro z; rcases z with z | z | z | z <;> first | contradiction | exact absurd z.1 (Int32.not_le.mpr c3) | exact absurd z.2 c9))), rfl⟩) rfl hK hP hD hS d_R_beginsNumber_35
    · skip
      refine lv_iload_n hx hb d_R_beginsNumber_12 rfl (lv_at hl 0 rfl) ?_
      refine lv_bipush (v := nI 43) hx hb d_R_beginsNumber_13 (by decide) ?_
      refine lv_icmp_eq (tgt := 30) hx hb d_R_beginsNumber_15 (by decide) (fun c15 => ?_) (fun c15 => ?_)
      · skip
        refine lv_iconst (v := nI 1) hx hb d_R_beginsNumber_30 (by decide) ?_
        refine lv_goto (tgt := 35) hx hb d_R_beginsNumber_31 (by decide) ?_
        exact yr_z (ws := []) hx hb hrt (rfl) hlocks (⟨congrArg (fun z => some (Value.int z)) (bz_t (by first | exact Or.inl ⟨Int32.not_lt.mp c3, c9⟩ | exact Or.inr (Or.inl (by assumption)) | exact Or.inr (Or.inr (Or.inl (by assumption))) | exact Or.inr (Or.inr (Or.inr (by assumption))) | (intro z; rcases z with z | z | z | z <;> first | contradiction | exact absurd z.1 (Int32.not_le.mpr c3) | exact absurd z.2 c9))), rfl⟩) rfl hK hP hD hS d_R_beginsNumber_35
      · skip
        refine lv_iload_n hx hb d_R_beginsNumber_18 rfl (lv_at hl 0 rfl) ?_
        refine lv_bipush (v := nI 45) hx hb d_R_beginsNumber_19 (by decide) ?_
        refine lv_icmp_eq (tgt := 30) hx hb d_R_beginsNumber_21 (by decide) (fun c21 => ?_) (fun c21 => ?_)
        · skip
          refine lv_iconst (v := nI 1) hx hb d_R_beginsNumber_30 (by decide) ?_
          refine lv_goto (tgt := 35) hx hb d_R_beginsNumber_31 (by decide) ?_
          exact yr_z (ws := []) hx hb hrt (rfl) hlocks (⟨congrArg (fun z => some (Value.int z)) (bz_t (by first | exact Or.inl ⟨Int32.not_lt.mp c3, c9⟩ | exact Or.inr (Or.inl (by assumption)) | exact Or.inr (Or.inr (Or.inl (by assumption))) | exact Or.inr (Or.inr (Or.inr (by assumption))) | (intro z; rcases z with z | z | z | z <;> first | contradiction | exact absurd z.1 (Int32.not_le.mpr c3) | exact absurd z.2 c9))), rfl⟩) rfl hK hP hD hS d_R_beginsNumber_35
        · skip
          refine lv_iload_n hx hb d_R_beginsNumber_24 rfl (lv_at hl 0 rfl) ?_
          refine lv_bipush (v := nI 46) hx hb d_R_beginsNumber_25 (by decide) ?_
          refine lv_icmp_ne (tgt := 34) hx hb d_R_beginsNumber_27 (by decide) (fun c27 => ?_) (fun c27 => ?_)
          · skip
            refine lv_iconst (v := nI 0) hx hb d_R_beginsNumber_34 (by decide) ?_
            exact yr_z (ws := []) hx hb hrt (rfl) hlocks (⟨congrArg (fun z => some (Value.int z)) (bz_f (by first | exact Or.inl ⟨Int32.not_lt.mp c3, c9⟩ | exact Or.inr (Or.inl (by assumption)) | exact Or.inr (Or.inr (Or.inl (by assumption))) | exact Or.inr (Or.inr (Or.inr (by assumption))) | (intro z; rcases z with z | z | z | z <;> first | contradiction | exact absurd z.1 (Int32.not_le.mpr c3) | exact absurd z.2 c9))), rfl⟩) rfl hK hP hD hS d_R_beginsNumber_35
          · skip
            refine lv_iconst (v := nI 1) hx hb d_R_beginsNumber_30 (by decide) ?_
            refine lv_goto (tgt := 35) hx hb d_R_beginsNumber_31 (by decide) ?_
            exact yr_z (ws := []) hx hb hrt (rfl) hlocks (⟨congrArg (fun z => some (Value.int z)) (bz_t (by first | exact Or.inl ⟨Int32.not_lt.mp c3, c9⟩ | exact Or.inr (Or.inl (by assumption)) | exact Or.inr (Or.inr (Or.inl (by assumption))) | exact Or.inr (Or.inr (Or.inr (by assumption))) | (intro z; rcases z with z | z | z | z <;> first | contradiction | exact absurd z.1 (Int32.not_le.mpr c3) | exact absurd z.2 c9))), rfl⟩) rfl hK hP hD hS d_R_beginsNumber_35
set_option maxHeartbeats 4000000 in
set_option maxRecDepth 100000 in
theorem c_R_here (l : Launch) (G : gl) (h : Nat → Nat) (dg : Nat) (n : Nat) (p : Nat) (fk : Nat) (fp : Nat) (t : Nat → Nat) (np : Nat) (no : Nat) (k : Nat) (c : Nat) (f : Nat → Int32) (o : Nat → Int32) (bt : Nat) (bk : Nat → Int32) (bn : Nat → Int32)  (hn : n ≤ 65536) (hp : p ≤ n) (ht : ∀ i, t i < 256) : YC l G y_R_here k_R_here 1 (Option.some FieldType.int) 0 0 [.ref (h 0)] (wR G h dg n p fk fp t np no k c f o bt bk bn) (fun v w => v = some (.int (toI (hr t n p))) ∧ w = wR G h dg n p fk fp t np no k c f o bt bk bn) (fun _ _ => False) := by
  refine yc_of (by decide) ?_
  intro pg ev sx mm bl mt cd A C0 hP hD
  obtain ⟨hx, hb, hrt, hml, hown, hg, hlocks, hxt, hE, hK, hA, hmn⟩ := C0
  have hS : va_S A sx.heap sx.heap [] := va_S.rf
  have hl := lv_entry ([.ref (h 0)]) (n := 1) (Nat.le_of_ble_eq_true rfl)
  rw [lg_entry_eq]
  generalize (lg_sl ([.ref (h 0)]) ++ List.replicate (1 - (lg_sl ([.ref (h 0)])).length) Slot.unset).toArray = ls at hl ⊢
  have hl : lv_has ls 1 [(0, .ref (h 0))] := hl
  obtain ⟨H, hH⟩ : ∃ H, H = sx.heap := ⟨_, rfl⟩
  rw [← hH] at hP
  have hS : va_S A sx.heap H [] := by rw [hH]; exact hS
  suffices h9 : W pg l ev (yR 0 0) sx mm _ bl mt cd H [] 0 0 (yMQ bl G A _ _ _ _ sx) (F0 mm 0 ls []) by rw [hH] at h9; exact h9
  obtain ⟨locs, hlo⟩ : ∃ locs : List Loc, locs = [] := ⟨_, rfl⟩
  rw [← hlo] at hS ⊢
  refine lv_aload_n hx hb d_R_here_0 rfl (lv_at hl 0 rfl) ?_
  refine va_get (D := gD G) (ci := 1) (v := .int (nI p)) (C := "WordShapes$Reader") (T := TR) (N := 8) hx hb hg iw_R hown hK hP 0 rfl rfl 5 (by decide) (hg _ tk_92) (fun _ h9 => h9) rfl d_R_here_1 ?_
  refine lv_aload_n hx hb d_R_here_4 rfl (lv_at hl 0 rfl) ?_
  refine va_get (D := gD G) (ci := 1) (v := .int (nI n)) (C := "WordShapes$Reader") (T := TR) (N := 8) hx hb hg iw_R hown hK hP 0 rfl rfl 4 (by decide) (hg _ tk_91) (fun _ h9 => h9) rfl d_R_here_5 ?_
  refine yn_icmp_ge (a := p) (b := n) (tgt := 27) hx hb d_R_here_8 (by decide) (by omega) (by omega) (fun c8 => ?_) (fun c8 => ?_)
  · skip
    refine lv_iconst (v := (-1)) hx hb d_R_here_27 (by decide) ?_
    exact yr_i (ws := wR G h dg n p fk fp t np no k c f o bt bk bn) hx hb hrt hlocks (⟨by unfold hr; first | (rw [if_pos c8]; unfold toI; rw [if_neg (by have := ht p; omega)]) | (rw [if_neg (by omega)]; rfl), rfl⟩) rfl hK hP hD hS d_R_here_28
  · skip
    refine lv_aload_n hx hb d_R_here_11 rfl (lv_at hl 0 rfl) ?_
    refine va_get (D := gD G) (ci := 1) (v := .ref (h 1)) (C := "WordShapes$Reader") (T := TR) (N := 8) hx hb hg iw_R hown hK hP 0 rfl rfl 0 (by decide) (hg _ tk_86) (fun _ h9 => h9) rfl d_R_here_12 ?_
    refine lv_aload_n hx hb d_R_here_15 rfl (lv_at hl 0 rfl) ?_
    refine va_get (D := gD G) (ci := 1) (v := .int (nI p)) (C := "WordShapes$Reader") (T := TR) (N := 8) hx hb hg iw_R hown hK hP 0 rfl rfl 5 (by decide) (hg _ tk_92) (fun _ h9 => h9) rfl d_R_here_16 ?_
    refine yn_bald hx hb hK hP 1 1 rfl rfl (j := p) (x := sb_b (t p)) (rfl) (by omega) (by omega) d_R_here_19 ?_
    refine lv_sipush (v := nI 255) hx hb d_R_here_20 (by decide) ?_
    refine lv_iand hx hb d_R_here_23 ?_
    refine y_eqi (sb_byte _ (by first | exact ht _ | omega)).1 ?_
    refine lv_goto (tgt := 28) hx hb d_R_here_24 (by decide) ?_
    exact yr_i (ws := wR G h dg n p fk fp t np no k c f o bt bk bn) hx hb hrt hlocks (⟨by unfold hr; first | (rw [if_pos c8]; unfold toI; rw [if_neg (by have := ht p; omega)]) | (rw [if_neg (by omega)]; rfl), rfl⟩) rfl hK hP hD hS d_R_here_28
set_option maxHeartbeats 4000000 in
set_option maxRecDepth 100000 in
theorem c_R_skipBlanks (l : Launch) (G : gl) (h : Nat → Nat) (dg : Nat) (n : Nat) (p : Nat) (fk : Nat) (fp : Nat) (t : Nat → Nat) (np : Nat) (no : Nat) (k : Nat) (c : Nat) (f : Nat → Int32) (o : Nat → Int32) (bt : Nat) (bk : Nat → Int32) (bn : Nat → Int32)  (hn : n ≤ 65536) (hp : p ≤ n) (ht : ∀ i, t i < 256) : YC l G y_R_skipBlanks k_R_skipBlanks 1 (Option.none : Option FieldType) 1 20 [.ref (h 0)] (wR G h dg n p fk fp t np no k c f o bt bk bn) (fun v w => v = none ∧ w = wR G h dg n (rn blN t n p) fk fp t np no k c f o bt bk bn) (fun _ _ => False) := by
  refine yc_of (by decide) ?_
  intro pg ev sx mm bl mt cd A C0 hP hD
  obtain ⟨hx, hb, hrt, hml, hown, hg, hlocks, hxt, hE, hK, hA, hmn⟩ := C0
  have hS : va_S A sx.heap sx.heap [] := va_S.rf
  have hl := lv_entry ([.ref (h 0)]) (n := 1) (Nat.le_of_ble_eq_true rfl)
  rw [lg_entry_eq]
  generalize (lg_sl ([.ref (h 0)]) ++ List.replicate (1 - (lg_sl ([.ref (h 0)])).length) Slot.unset).toArray = ls at hl ⊢
  have hl : lv_has ls 1 [(0, .ref (h 0))] := hl
  obtain ⟨H, hH⟩ : ∃ H, H = sx.heap := ⟨_, rfl⟩
  rw [← hH] at hP
  have hS : va_S A sx.heap H [] := by rw [hH]; exact hS
  suffices h9 : W pg l ev (yR 1 20) sx mm _ bl mt cd H [] 0 0 (yMQ bl G A _ _ _ _ sx) (F0 mm 0 ls []) by rw [hH] at h9; exact h9
  obtain ⟨locs, hlo⟩ : ∃ locs : List Loc, locs = [] := ⟨_, rfl⟩
  rw [← hlo] at hS ⊢
  have J0 : ∀ (n9 : Nat) (q : Nat) (hm9 : n - q < n9) (hq1 : p ≤ q) (hq2 : q ≤ n) (hq3 : rn blN t n q = rn blN t n p) (H : Heap) (locs : List Loc) (ls : Array Slot), va_P (gD G) vwC (wR G h dg n q fk fp t np no k c f o bt bk bn) H → va_D A (wR G h dg n q fk fp t np no k c f o bt bk bn) → va_S A sx.heap H locs → lv_has ls 1 [(0, .ref (h 0))] → W pg l ev (yR 1 20) sx mm ([.ref (h 0)] : List Value).toArray bl mt cd H locs 0 0 (yMQ bl G A (wR G h dg n p fk fp t np no k c f o bt bk bn).length (fun v w => v = none ∧ w = wR G h dg n (rn blN t n p) fk fp t np no k c f o bt bk bn) (fun _ _ => False) ([.ref (h 0)] : List Value).toArray sx) (F0 mm 0 ls []) := by
    intro n9
    induction n9 with
    | zero => intro q hm9; exact absurd hm9 (Nat.not_lt_zero _)
    | succ n9 ih9 =>
      intro q hm9 hq1 hq2 hq3 H locs ls hP hD hS hl
      refine lv_aload_n hx hb d_R_skipBlanks_0 rfl (lv_at hl 0 rfl) ?_
      refine va_get (D := gD G) (ci := 1) (v := .int (nI q)) (C := "WordShapes$Reader") (T := TR) (N := 8) hx hb hg iw_R hown hK hP 0 rfl rfl 5 (by decide) (hg _ tk_92) (fun _ h9 => h9) rfl d_R_skipBlanks_1 ?_
      refine lv_aload_n hx hb d_R_skipBlanks_4 rfl (lv_at hl 0 rfl) ?_
      refine va_get (D := gD G) (ci := 1) (v := .int (nI n)) (C := "WordShapes$Reader") (T := TR) (N := 8) hx hb hg iw_R hown hK hP 0 rfl rfl 4 (by decide) (hg _ tk_91) (fun _ h9 => h9) rfl d_R_skipBlanks_5 ?_
      refine yn_icmp_ge (a := q) (b := n) (tgt := 39) hx hb d_R_skipBlanks_8 (by decide) (by omega) (by omega) (fun c8 => ?_) (fun c8 => ?_)
      · skip
        have e9 : q = rn blN t n p := by rw [← hq3]; exact (rn_stop (fun z => by first | omega | (rw [← (ch_b _ (ht q)).1] at z; rw [c23] at z; exact absurd z.2 (by decide)))).symm
        rw [e9] at hP hD
        exact yr_v (ws := wR G h dg n (rn blN t n p) fk fp t np no k c f o bt bk bn) hx hb hrt hlocks (⟨rfl, rfl⟩) rfl hK hP hD hS d_R_skipBlanks_39
      · skip
        refine lv_aload_n hx hb d_R_skipBlanks_11 rfl (lv_at hl 0 rfl) ?_
        refine va_get (D := gD G) (ci := 1) (v := .ref (h 1)) (C := "WordShapes$Reader") (T := TR) (N := 8) hx hb hg iw_R hown hK hP 0 rfl rfl 0 (by decide) (hg _ tk_86) (fun _ h9 => h9) rfl d_R_skipBlanks_12 ?_
        refine lv_aload_n hx hb d_R_skipBlanks_15 rfl (lv_at hl 0 rfl) ?_
        refine va_get (D := gD G) (ci := 1) (v := .int (nI q)) (C := "WordShapes$Reader") (T := TR) (N := 8) hx hb hg iw_R hown hK hP 0 rfl rfl 5 (by decide) (hg _ tk_92) (fun _ h9 => h9) rfl d_R_skipBlanks_16 ?_
        refine yn_bald hx hb hK hP 1 1 rfl rfl (j := q) (x := sb_b (t q)) (rfl) (by omega) (by omega) d_R_skipBlanks_19 ?_
        refine y_call (y_runS (As := [.int (sb_b (t q))]) (rest := []) hx hb hml hown (c_R_isBlank l G  (sb_b (t q)) ) (gS (n := 1) hg tk_337 tk_338 tk_4 tk_339 (by decide +kernel) ⟨Nat.le_of_ble_eq_true rfl, Nat.le_of_ble_eq_true rfl⟩) (y_pre hE hK hP hD hS hA [] rfl rfl) rfl rfl hl.1 rfl (lv_room (Nat.le_of_ble_eq_true rfl)) d_R_skipBlanks_20 ⟨Nat.le_of_ble_eq_true rfl, Nat.le_of_ble_eq_true rfl⟩) hP hD hS hA [] rfl (fun _ _ _ _ _ _ hp => False.elim hp) (fun v w H locs hp hlw hP hD hS => ?_)
        obtain ⟨rfl, rfl⟩ := hp
        have hP : va_P (gD G) vwC (wR G h dg n q fk fp t np no k c f o bt bk bn) H := hP
        have hD : va_D A (wR G h dg n q fk fp t np no k c f o bt bk bn) := hD
        refine W.eq (g2 := F0 mm 23 ls [.int (bz (isBl (sb_b (t q))))]) rfl ?_
        refine yy_if_eq (P := isBl (sb_b (t q))) (tgt := 39) hx hb d_R_skipBlanks_23 (by decide) (fun c23 => ?_) (fun c23 => ?_)
        · skip
          have e9 : q = rn blN t n p := by rw [← hq3]; exact (rn_stop (fun z => by first | omega | (rw [← (ch_b _ (ht q)).1] at z; rw [c23] at z; exact absurd z.2 (by decide)))).symm
          rw [e9] at hP hD
          exact yr_v (ws := wR G h dg n (rn blN t n p) fk fp t np no k c f o bt bk bn) hx hb hrt hlocks (⟨rfl, rfl⟩) rfl hK hP hD hS d_R_skipBlanks_39
        · skip
          refine lv_aload_n hx hb d_R_skipBlanks_26 rfl (lv_at hl 0 rfl) ?_
          refine lv_dup hx hb d_R_skipBlanks_27 rfl ?_
          refine va_get (D := gD G) (ci := 1) (v := .int (nI q)) (C := "WordShapes$Reader") (T := TR) (N := 8) hx hb hg iw_R hown hK hP 0 rfl rfl 5 (by decide) (hg _ tk_92) (fun _ h9 => h9) rfl d_R_skipBlanks_28 ?_
          refine lv_iconst (v := nI 1) hx hb d_R_skipBlanks_31 (by decide) ?_
          refine lv_iadd hx hb d_R_skipBlanks_32 ?_
          refine y_eqi (nI_add _ _) ?_
          refine va_put (D := gD G) (ci := 1) (v := .int (nI (q + 1))) (ty := .int) (C := "WordShapes$Reader") (T := TR) (N := 8) hx hb hg iw_R ft_R fo_R nm_R hown hK hP hD hS 0 rfl rfl 5 (by decide) (hg _ tk_92) (fun _ h9 => h9) rfl (by decide +kernel) (rfl) (rfl) (Nat.le_of_ble_eq_true rfl) d_R_skipBlanks_33 (fun H locs hP hD hS => ?_)
          have hP : va_P (gD G) vwC (wR G h dg n (q + 1) fk fp t np no k c f o bt bk bn) H := hP
          have hD : va_D A (wR G h dg n (q + 1) fk fp t np no k c f o bt bk bn) := hD
          refine lv_goto (tgt := 0) hx hb d_R_skipBlanks_36 (by decide) ?_
          exact ih9 (q + 1) (by omega) (by omega) (by omega) ((rn_step (by omega) (by rw [← (ch_b _ (ht q)).1]; exact c23)).symm.trans hq3) _ _ _ hP hD hS (lv_sub hl [0] rfl)
  exact J0 _ p (Nat.lt_succ_self _) (by omega) (by omega) (rfl) _ _ _ hP hD hS (lv_sub hl [0] rfl)
set_option maxHeartbeats 4000000 in
set_option maxRecDepth 100000 in
theorem c_R_passLetters (l : Launch) (G : gl) (h : Nat → Nat) (dg : Nat) (n : Nat) (p : Nat) (fk : Nat) (fp : Nat) (t : Nat → Nat) (np : Nat) (no : Nat) (k : Nat) (c : Nat) (f : Nat → Int32) (o : Nat → Int32) (bt : Nat) (bk : Nat → Int32) (bn : Nat → Int32)  (hn : n ≤ 65536) (hp : p ≤ n) (ht : ∀ i, t i < 256) : YC l G y_R_passLetters k_R_passLetters 1 (Option.none : Option FieldType) 1 20 [.ref (h 0)] (wR G h dg n p fk fp t np no k c f o bt bk bn) (fun v w => v = none ∧ w = wR G h dg n (rn leN t n p) fk fp t np no k c f o bt bk bn) (fun _ _ => False) := by
  refine yc_of (by decide) ?_
  intro pg ev sx mm bl mt cd A C0 hP hD
  obtain ⟨hx, hb, hrt, hml, hown, hg, hlocks, hxt, hE, hK, hA, hmn⟩ := C0
  have hS : va_S A sx.heap sx.heap [] := va_S.rf
  have hl := lv_entry ([.ref (h 0)]) (n := 1) (Nat.le_of_ble_eq_true rfl)
  rw [lg_entry_eq]
  generalize (lg_sl ([.ref (h 0)]) ++ List.replicate (1 - (lg_sl ([.ref (h 0)])).length) Slot.unset).toArray = ls at hl ⊢
  have hl : lv_has ls 1 [(0, .ref (h 0))] := hl
  obtain ⟨H, hH⟩ : ∃ H, H = sx.heap := ⟨_, rfl⟩
  rw [← hH] at hP
  have hS : va_S A sx.heap H [] := by rw [hH]; exact hS
  suffices h9 : W pg l ev (yR 1 20) sx mm _ bl mt cd H [] 0 0 (yMQ bl G A _ _ _ _ sx) (F0 mm 0 ls []) by rw [hH] at h9; exact h9
  obtain ⟨locs, hlo⟩ : ∃ locs : List Loc, locs = [] := ⟨_, rfl⟩
  rw [← hlo] at hS ⊢
  have J0 : ∀ (n9 : Nat) (q : Nat) (hm9 : n - q < n9) (hq1 : p ≤ q) (hq2 : q ≤ n) (hq3 : rn leN t n q = rn leN t n p) (H : Heap) (locs : List Loc) (ls : Array Slot), va_P (gD G) vwC (wR G h dg n q fk fp t np no k c f o bt bk bn) H → va_D A (wR G h dg n q fk fp t np no k c f o bt bk bn) → va_S A sx.heap H locs → lv_has ls 1 [(0, .ref (h 0))] → W pg l ev (yR 1 20) sx mm ([.ref (h 0)] : List Value).toArray bl mt cd H locs 0 0 (yMQ bl G A (wR G h dg n p fk fp t np no k c f o bt bk bn).length (fun v w => v = none ∧ w = wR G h dg n (rn leN t n p) fk fp t np no k c f o bt bk bn) (fun _ _ => False) ([.ref (h 0)] : List Value).toArray sx) (F0 mm 0 ls []) := by
    intro n9
    induction n9 with
    | zero => intro q hm9; exact absurd hm9 (Nat.not_lt_zero _)
    | succ n9 ih9 =>
      intro q hm9 hq1 hq2 hq3 H locs ls hP hD hS hl
      refine lv_aload_n hx hb d_R_passLetters_0 rfl (lv_at hl 0 rfl) ?_
      refine va_get (D := gD G) (ci := 1) (v := .int (nI q)) (C := "WordShapes$Reader") (T := TR) (N := 8) hx hb hg iw_R hown hK hP 0 rfl rfl 5 (by decide) (hg _ tk_92) (fun _ h9 => h9) rfl d_R_passLetters_1 ?_
      refine lv_aload_n hx hb d_R_passLetters_4 rfl (lv_at hl 0 rfl) ?_
      refine va_get (D := gD G) (ci := 1) (v := .int (nI n)) (C := "WordShapes$Reader") (T := TR) (N := 8) hx hb hg iw_R hown hK hP 0 rfl rfl 4 (by decide) (hg _ tk_91) (fun _ h9 => h9) rfl d_R_passLetters_5 ?_
      refine yn_icmp_ge (a := q) (b := n) (tgt := 39) hx hb d_R_passLetters_8 (by decide) (by omega) (by omega) (fun c8 => ?_) (fun c8 => ?_)
      · skip
        have e9 : q = rn leN t n p := by rw [← hq3]; exact (rn_stop (fun z => by first | omega | (rw [← (ch_b _ (ht q)).2.1] at z; rw [c23] at z; exact absurd z.2 (by decide)))).symm
        rw [e9] at hP hD
        exact yr_v (ws := wR G h dg n (rn leN t n p) fk fp t np no k c f o bt bk bn) hx hb hrt hlocks (⟨rfl, rfl⟩) rfl hK hP hD hS d_R_passLetters_39
      · skip
        refine lv_aload_n hx hb d_R_passLetters_11 rfl (lv_at hl 0 rfl) ?_
        refine va_get (D := gD G) (ci := 1) (v := .ref (h 1)) (C := "WordShapes$Reader") (T := TR) (N := 8) hx hb hg iw_R hown hK hP 0 rfl rfl 0 (by decide) (hg _ tk_86) (fun _ h9 => h9) rfl d_R_passLetters_12 ?_
        refine lv_aload_n hx hb d_R_passLetters_15 rfl (lv_at hl 0 rfl) ?_
        refine va_get (D := gD G) (ci := 1) (v := .int (nI q)) (C := "WordShapes$Reader") (T := TR) (N := 8) hx hb hg iw_R hown hK hP 0 rfl rfl 5 (by decide) (hg _ tk_92) (fun _ h9 => h9) rfl d_R_passLetters_16 ?_
        refine yn_bald hx hb hK hP 1 1 rfl rfl (j := q) (x := sb_b (t q)) (rfl) (by omega) (by omega) d_R_passLetters_19 ?_
        refine y_call (y_runS (As := [.int (sb_b (t q))]) (rest := []) hx hb hml hown (c_R_isLetter l G  (sb_b (t q)) ) (gS (n := 1) hg tk_360 tk_361 tk_4 tk_362 (by decide +kernel) ⟨Nat.le_of_ble_eq_true rfl, Nat.le_of_ble_eq_true rfl⟩) (y_pre hE hK hP hD hS hA [] rfl rfl) rfl rfl hl.1 rfl (lv_room (Nat.le_of_ble_eq_true rfl)) d_R_passLetters_20 ⟨Nat.le_of_ble_eq_true rfl, Nat.le_of_ble_eq_true rfl⟩) hP hD hS hA [] rfl (fun _ _ _ _ _ _ hp => False.elim hp) (fun v w H locs hp hlw hP hD hS => ?_)
        obtain ⟨rfl, rfl⟩ := hp
        have hP : va_P (gD G) vwC (wR G h dg n q fk fp t np no k c f o bt bk bn) H := hP
        have hD : va_D A (wR G h dg n q fk fp t np no k c f o bt bk bn) := hD
        refine W.eq (g2 := F0 mm 23 ls [.int (bz (isLe (sb_b (t q))))]) rfl ?_
        refine yy_if_eq (P := isLe (sb_b (t q))) (tgt := 39) hx hb d_R_passLetters_23 (by decide) (fun c23 => ?_) (fun c23 => ?_)
        · skip
          have e9 : q = rn leN t n p := by rw [← hq3]; exact (rn_stop (fun z => by first | omega | (rw [← (ch_b _ (ht q)).2.1] at z; rw [c23] at z; exact absurd z.2 (by decide)))).symm
          rw [e9] at hP hD
          exact yr_v (ws := wR G h dg n (rn leN t n p) fk fp t np no k c f o bt bk bn) hx hb hrt hlocks (⟨rfl, rfl⟩) rfl hK hP hD hS d_R_passLetters_39
        · skip
          refine lv_aload_n hx hb d_R_passLetters_26 rfl (lv_at hl 0 rfl) ?_
          refine lv_dup hx hb d_R_passLetters_27 rfl ?_
          refine va_get (D := gD G) (ci := 1) (v := .int (nI q)) (C := "WordShapes$Reader") (T := TR) (N := 8) hx hb hg iw_R hown hK hP 0 rfl rfl 5 (by decide) (hg _ tk_92) (fun _ h9 => h9) rfl d_R_passLetters_28 ?_
          refine lv_iconst (v := nI 1) hx hb d_R_passLetters_31 (by decide) ?_
          refine lv_iadd hx hb d_R_passLetters_32 ?_
          refine y_eqi (nI_add _ _) ?_
          refine va_put (D := gD G) (ci := 1) (v := .int (nI (q + 1))) (ty := .int) (C := "WordShapes$Reader") (T := TR) (N := 8) hx hb hg iw_R ft_R fo_R nm_R hown hK hP hD hS 0 rfl rfl 5 (by decide) (hg _ tk_92) (fun _ h9 => h9) rfl (by decide +kernel) (rfl) (rfl) (Nat.le_of_ble_eq_true rfl) d_R_passLetters_33 (fun H locs hP hD hS => ?_)
          have hP : va_P (gD G) vwC (wR G h dg n (q + 1) fk fp t np no k c f o bt bk bn) H := hP
          have hD : va_D A (wR G h dg n (q + 1) fk fp t np no k c f o bt bk bn) := hD
          refine lv_goto (tgt := 0) hx hb d_R_passLetters_36 (by decide) ?_
          exact ih9 (q + 1) (by omega) (by omega) (by omega) ((rn_step (by omega) (by rw [← (ch_b _ (ht q)).2.1]; exact c23)).symm.trans hq3) _ _ _ hP hD hS (lv_sub hl [0] rfl)
  exact J0 _ p (Nat.lt_succ_self _) (by omega) (by omega) (rfl) _ _ _ hP hD hS (lv_sub hl [0] rfl)
set_option maxHeartbeats 4000000 in
set_option maxRecDepth 100000 in
theorem c_R_passDigits (l : Launch) (G : gl) (h : Nat → Nat) (dg : Nat) (n : Nat) (p : Nat) (fk : Nat) (fp : Nat) (t : Nat → Nat) (np : Nat) (no : Nat) (k : Nat) (c : Nat) (f : Nat → Int32) (o : Nat → Int32) (bt : Nat) (bk : Nat → Int32) (bn : Nat → Int32)  (hn : n ≤ 65536) (hp : p ≤ n) (ht : ∀ i, t i < 256) : YC l G y_R_passDigits k_R_passDigits 2 (Option.some FieldType.int) 1 20 [.ref (h 0)] (wR G h dg n p fk fp t np no k c f o bt bk bn) (fun v w => v = some (.int (nI (rn diN t n p - p))) ∧ w = wR G h dg n (rn diN t n p) fk fp t np no k c f o bt bk bn) (fun _ _ => False) := by
  refine yc_of (by decide) ?_
  intro pg ev sx mm bl mt cd A C0 hP hD
  obtain ⟨hx, hb, hrt, hml, hown, hg, hlocks, hxt, hE, hK, hA, hmn⟩ := C0
  have hS : va_S A sx.heap sx.heap [] := va_S.rf
  have hl := lv_entry ([.ref (h 0)]) (n := 2) (Nat.le_of_ble_eq_true rfl)
  rw [lg_entry_eq]
  generalize (lg_sl ([.ref (h 0)]) ++ List.replicate (2 - (lg_sl ([.ref (h 0)])).length) Slot.unset).toArray = ls at hl ⊢
  have hl : lv_has ls 2 [(0, .ref (h 0))] := hl
  obtain ⟨H, hH⟩ : ∃ H, H = sx.heap := ⟨_, rfl⟩
  rw [← hH] at hP
  have hS : va_S A sx.heap H [] := by rw [hH]; exact hS
  suffices h9 : W pg l ev (yR 1 20) sx mm _ bl mt cd H [] 0 0 (yMQ bl G A _ _ _ _ sx) (F0 mm 0 ls []) by rw [hH] at h9; exact h9
  obtain ⟨locs, hlo⟩ : ∃ locs : List Loc, locs = [] := ⟨_, rfl⟩
  rw [← hlo] at hS ⊢
  have J5 : ∀ (n9 : Nat) (q : Nat) (hm9 : n - q < n9) (hq1 : p ≤ q) (hq2 : q ≤ n) (hq3 : rn diN t n q = rn diN t n p) (H : Heap) (locs : List Loc) (ls : Array Slot), va_P (gD G) vwC (wR G h dg n q fk fp t np no k c f o bt bk bn) H → va_D A (wR G h dg n q fk fp t np no k c f o bt bk bn) → va_S A sx.heap H locs → lv_has ls 2 [(0, .ref (h 0)), (1, .int (nI p))] → W pg l ev (yR 1 20) sx mm ([.ref (h 0)] : List Value).toArray bl mt cd H locs 0 0 (yMQ bl G A (wR G h dg n p fk fp t np no k c f o bt bk bn).length (fun v w => v = some (.int (nI (rn diN t n p - p))) ∧ w = wR G h dg n (rn diN t n p) fk fp t np no k c f o bt bk bn) (fun _ _ => False) ([.ref (h 0)] : List Value).toArray sx) (F0 mm 5 ls []) := by
    intro n9
    induction n9 with
    | zero => intro q hm9; exact absurd hm9 (Nat.not_lt_zero _)
    | succ n9 ih9 =>
      intro q hm9 hq1 hq2 hq3 H locs ls hP hD hS hl
      refine lv_aload_n hx hb d_R_passDigits_5 rfl (lv_at hl 0 rfl) ?_
      refine va_get (D := gD G) (ci := 1) (v := .int (nI q)) (C := "WordShapes$Reader") (T := TR) (N := 8) hx hb hg iw_R hown hK hP 0 rfl rfl 5 (by decide) (hg _ tk_92) (fun _ h9 => h9) rfl d_R_passDigits_6 ?_
      refine lv_aload_n hx hb d_R_passDigits_9 rfl (lv_at hl 0 rfl) ?_
      refine va_get (D := gD G) (ci := 1) (v := .int (nI n)) (C := "WordShapes$Reader") (T := TR) (N := 8) hx hb hg iw_R hown hK hP 0 rfl rfl 4 (by decide) (hg _ tk_91) (fun _ h9 => h9) rfl d_R_passDigits_10 ?_
      refine yn_icmp_ge (a := q) (b := n) (tgt := 44) hx hb d_R_passDigits_13 (by decide) (by omega) (by omega) (fun c13 => ?_) (fun c13 => ?_)
      · skip
        refine lv_aload_n hx hb d_R_passDigits_44 rfl (lv_at hl 0 rfl) ?_
        refine va_get (D := gD G) (ci := 1) (v := .int (nI q)) (C := "WordShapes$Reader") (T := TR) (N := 8) hx hb hg iw_R hown hK hP 0 rfl rfl 5 (by decide) (hg _ tk_92) (fun _ h9 => h9) rfl d_R_passDigits_45 ?_
        refine lv_iload_n hx hb d_R_passDigits_48 rfl (lv_at hl 1 rfl) ?_
        refine lv_isub hx hb d_R_passDigits_49 ?_
        refine y_eqi (pk_sub (by omega)) ?_
        have e9 : q = rn diN t n p := by rw [← hq3]; exact (rn_stop (fun z => by first | omega | (rw [← (ch_b _ (ht q)).2.2.1] at z; rw [c28] at z; exact absurd z.2 (by decide)))).symm
        rw [e9] at hP hD ⊢
        exact yr_i (ws := wR G h dg n (rn diN t n p) fk fp t np no k c f o bt bk bn) hx hb hrt hlocks (⟨rfl, rfl⟩) rfl hK hP hD hS d_R_passDigits_50
      · skip
        refine lv_aload_n hx hb d_R_passDigits_16 rfl (lv_at hl 0 rfl) ?_
        refine va_get (D := gD G) (ci := 1) (v := .ref (h 1)) (C := "WordShapes$Reader") (T := TR) (N := 8) hx hb hg iw_R hown hK hP 0 rfl rfl 0 (by decide) (hg _ tk_86) (fun _ h9 => h9) rfl d_R_passDigits_17 ?_
        refine lv_aload_n hx hb d_R_passDigits_20 rfl (lv_at hl 0 rfl) ?_
        refine va_get (D := gD G) (ci := 1) (v := .int (nI q)) (C := "WordShapes$Reader") (T := TR) (N := 8) hx hb hg iw_R hown hK hP 0 rfl rfl 5 (by decide) (hg _ tk_92) (fun _ h9 => h9) rfl d_R_passDigits_21 ?_
        refine yn_bald hx hb hK hP 1 1 rfl rfl (j := q) (x := sb_b (t q)) (rfl) (by omega) (by omega) d_R_passDigits_24 ?_
        refine y_call (y_runS (As := [.int (sb_b (t q))]) (rest := []) hx hb hml hown (c_R_isDigit l G  (sb_b (t q)) ) (gS (n := 1) hg tk_496 tk_497 tk_4 tk_498 (by decide +kernel) ⟨Nat.le_of_ble_eq_true rfl, Nat.le_of_ble_eq_true rfl⟩) (y_pre hE hK hP hD hS hA [] rfl rfl) rfl rfl hl.1 rfl (lv_room (Nat.le_of_ble_eq_true rfl)) d_R_passDigits_25 ⟨Nat.le_of_ble_eq_true rfl, Nat.le_of_ble_eq_true rfl⟩) hP hD hS hA [] rfl (fun _ _ _ _ _ _ hp => False.elim hp) (fun v w H locs hp hlw hP hD hS => ?_)
        obtain ⟨rfl, rfl⟩ := hp
        have hP : va_P (gD G) vwC (wR G h dg n q fk fp t np no k c f o bt bk bn) H := hP
        have hD : va_D A (wR G h dg n q fk fp t np no k c f o bt bk bn) := hD
        refine W.eq (g2 := F0 mm 28 ls [.int (bz (isDi (sb_b (t q))))]) rfl ?_
        refine yy_if_eq (P := isDi (sb_b (t q))) (tgt := 44) hx hb d_R_passDigits_28 (by decide) (fun c28 => ?_) (fun c28 => ?_)
        · skip
          refine lv_aload_n hx hb d_R_passDigits_44 rfl (lv_at hl 0 rfl) ?_
          refine va_get (D := gD G) (ci := 1) (v := .int (nI q)) (C := "WordShapes$Reader") (T := TR) (N := 8) hx hb hg iw_R hown hK hP 0 rfl rfl 5 (by decide) (hg _ tk_92) (fun _ h9 => h9) rfl d_R_passDigits_45 ?_
          refine lv_iload_n hx hb d_R_passDigits_48 rfl (lv_at hl 1 rfl) ?_
          refine lv_isub hx hb d_R_passDigits_49 ?_
          refine y_eqi (pk_sub (by omega)) ?_
          have e9 : q = rn diN t n p := by rw [← hq3]; exact (rn_stop (fun z => by first | omega | (rw [← (ch_b _ (ht q)).2.2.1] at z; rw [c28] at z; exact absurd z.2 (by decide)))).symm
          rw [e9] at hP hD ⊢
          exact yr_i (ws := wR G h dg n (rn diN t n p) fk fp t np no k c f o bt bk bn) hx hb hrt hlocks (⟨rfl, rfl⟩) rfl hK hP hD hS d_R_passDigits_50
        · skip
          refine lv_aload_n hx hb d_R_passDigits_31 rfl (lv_at hl 0 rfl) ?_
          refine lv_dup hx hb d_R_passDigits_32 rfl ?_
          refine va_get (D := gD G) (ci := 1) (v := .int (nI q)) (C := "WordShapes$Reader") (T := TR) (N := 8) hx hb hg iw_R hown hK hP 0 rfl rfl 5 (by decide) (hg _ tk_92) (fun _ h9 => h9) rfl d_R_passDigits_33 ?_
          refine lv_iconst (v := nI 1) hx hb d_R_passDigits_36 (by decide) ?_
          refine lv_iadd hx hb d_R_passDigits_37 ?_
          refine y_eqi (nI_add _ _) ?_
          refine va_put (D := gD G) (ci := 1) (v := .int (nI (q + 1))) (ty := .int) (C := "WordShapes$Reader") (T := TR) (N := 8) hx hb hg iw_R ft_R fo_R nm_R hown hK hP hD hS 0 rfl rfl 5 (by decide) (hg _ tk_92) (fun _ h9 => h9) rfl (by decide +kernel) (rfl) (rfl) (Nat.le_of_ble_eq_true rfl) d_R_passDigits_38 (fun H locs hP hD hS => ?_)
          have hP : va_P (gD G) vwC (wR G h dg n (q + 1) fk fp t np no k c f o bt bk bn) H := hP
          have hD : va_D A (wR G h dg n (q + 1) fk fp t np no k c f o bt bk bn) := hD
          refine lv_goto (tgt := 5) hx hb d_R_passDigits_41 (by decide) ?_
          exact ih9 (q + 1) (by omega) (by omega) (by omega) ((rn_step (by omega) (by rw [← (ch_b _ (ht q)).2.2.1]; exact c28)).symm.trans hq3) _ _ _ hP hD hS (lv_sub hl [0, 1] rfl)
  refine lv_aload_n hx hb d_R_passDigits_0 rfl (lv_at hl 0 rfl) ?_
  refine va_get (D := gD G) (ci := 1) (v := .int (nI p)) (C := "WordShapes$Reader") (T := TR) (N := 8) hx hb hg iw_R hown hK hP 0 rfl rfl 5 (by decide) (hg _ tk_92) (fun _ h9 => h9) rfl d_R_passDigits_1 ?_
  refine lv_istore_n (lv' := [(1, .int (nI p)), (0, .ref (h 0))]) hx hb d_R_passDigits_4 rfl hl (by decide) rfl (fun ls hl => ?_)
  exact J5 _ p (Nat.lt_succ_self _) (by omega) (by omega) (rfl) _ _ _ hP hD hS (lv_sub hl [1, 0] rfl)
set_option maxHeartbeats 4000000 in
set_option maxRecDepth 100000 in
theorem c_R_passSign (l : Launch) (G : gl) (h : Nat → Nat) (dg : Nat) (n : Nat) (p : Nat) (fk : Nat) (fp : Nat) (t : Nat → Nat) (np : Nat) (no : Nat) (k : Nat) (c : Nat) (f : Nat → Int32) (o : Nat → Int32) (bt : Nat) (bk : Nat → Int32) (bn : Nat → Int32)  (hn : n ≤ 65536) (hp : p ≤ n) (ht : ∀ i, t i < 256) : YC l G y_R_passSign k_R_passSign 1 (Option.none : Option FieldType) 0 0 [.ref (h 0)] (wR G h dg n p fk fp t np no k c f o bt bk bn) (fun v w => v = none ∧ w = wR G h dg n (ps t n p) fk fp t np no k c f o bt bk bn) (fun _ _ => False) := by
  refine yc_of (by decide) ?_
  intro pg ev sx mm bl mt cd A C0 hP hD
  obtain ⟨hx, hb, hrt, hml, hown, hg, hlocks, hxt, hE, hK, hA, hmn⟩ := C0
  have hS : va_S A sx.heap sx.heap [] := va_S.rf
  have hl := lv_entry ([.ref (h 0)]) (n := 1) (Nat.le_of_ble_eq_true rfl)
  rw [lg_entry_eq]
  generalize (lg_sl ([.ref (h 0)]) ++ List.replicate (1 - (lg_sl ([.ref (h 0)])).length) Slot.unset).toArray = ls at hl ⊢
  have hl : lv_has ls 1 [(0, .ref (h 0))] := hl
  obtain ⟨H, hH⟩ : ∃ H, H = sx.heap := ⟨_, rfl⟩
  rw [← hH] at hP
  have hS : va_S A sx.heap H [] := by rw [hH]; exact hS
  suffices h9 : W pg l ev (yR 0 0) sx mm _ bl mt cd H [] 0 0 (yMQ bl G A _ _ _ _ sx) (F0 mm 0 ls []) by rw [hH] at h9; exact h9
  obtain ⟨locs, hlo⟩ : ∃ locs : List Loc, locs = [] := ⟨_, rfl⟩
  rw [← hlo] at hS ⊢
  refine lv_aload_n hx hb d_R_passSign_0 rfl (lv_at hl 0 rfl) ?_
  refine va_get (D := gD G) (ci := 1) (v := .int (nI p)) (C := "WordShapes$Reader") (T := TR) (N := 8) hx hb hg iw_R hown hK hP 0 rfl rfl 5 (by decide) (hg _ tk_92) (fun _ h9 => h9) rfl d_R_passSign_1 ?_
  refine lv_aload_n hx hb d_R_passSign_4 rfl (lv_at hl 0 rfl) ?_
  refine va_get (D := gD G) (ci := 1) (v := .int (nI n)) (C := "WordShapes$Reader") (T := TR) (N := 8) hx hb hg iw_R hown hK hP 0 rfl rfl 4 (by decide) (hg _ tk_91) (fun _ h9 => h9) rfl d_R_passSign_5 ?_
  refine yn_icmp_ge (a := p) (b := n) (tgt := 49) hx hb d_R_passSign_8 (by decide) (by omega) (by omega) (fun c8 => ?_) (fun c8 => ?_)
  · skip
    exact yr_v (ws := wR G h dg n p fk fp t np no k c f o bt bk bn) hx hb hrt hlocks (⟨rfl, by unfold ps sgN hr; first | (rw [if_pos c8, if_pos (decide_eq_true (Or.inl c22))]) | (rw [if_pos c8, if_pos (decide_eq_true (Or.inr c36))]) | (rw [if_neg (Nat.not_lt.mpr c8)]; rfl) | (rw [if_pos c8, if_neg (by rw [decide_eq_false (fun z => z.elim c22 c36)]; decide)])⟩) rfl hK hP hD hS d_R_passSign_49
  · skip
    refine lv_aload_n hx hb d_R_passSign_11 rfl (lv_at hl 0 rfl) ?_
    refine va_get (D := gD G) (ci := 1) (v := .ref (h 1)) (C := "WordShapes$Reader") (T := TR) (N := 8) hx hb hg iw_R hown hK hP 0 rfl rfl 0 (by decide) (hg _ tk_86) (fun _ h9 => h9) rfl d_R_passSign_12 ?_
    refine lv_aload_n hx hb d_R_passSign_15 rfl (lv_at hl 0 rfl) ?_
    refine va_get (D := gD G) (ci := 1) (v := .int (nI p)) (C := "WordShapes$Reader") (T := TR) (N := 8) hx hb hg iw_R hown hK hP 0 rfl rfl 5 (by decide) (hg _ tk_92) (fun _ h9 => h9) rfl d_R_passSign_16 ?_
    refine yn_bald hx hb hK hP 1 1 rfl rfl (j := p) (x := sb_b (t p)) (rfl) (by omega) (by omega) d_R_passSign_19 ?_
    refine lv_bipush (v := nI 43) hx hb d_R_passSign_20 (by decide) ?_
    refine yb_icmp_eq (a := t p) (b := 43) (tgt := 39) hx hb d_R_passSign_22 (by decide) (ht _) (by omega) (fun c22 => ?_) (fun c22 => ?_)
    · skip
      refine lv_aload_n hx hb d_R_passSign_39 rfl (lv_at hl 0 rfl) ?_
      refine lv_dup hx hb d_R_passSign_40 rfl ?_
      refine va_get (D := gD G) (ci := 1) (v := .int (nI p)) (C := "WordShapes$Reader") (T := TR) (N := 8) hx hb hg iw_R hown hK hP 0 rfl rfl 5 (by decide) (hg _ tk_92) (fun _ h9 => h9) rfl d_R_passSign_41 ?_
      refine lv_iconst (v := nI 1) hx hb d_R_passSign_44 (by decide) ?_
      refine lv_iadd hx hb d_R_passSign_45 ?_
      refine y_eqi (nI_add _ _) ?_
      refine va_put (D := gD G) (ci := 1) (v := .int (nI (p + 1))) (ty := .int) (C := "WordShapes$Reader") (T := TR) (N := 8) hx hb hg iw_R ft_R fo_R nm_R hown hK hP hD hS 0 rfl rfl 5 (by decide) (hg _ tk_92) (fun _ h9 => h9) rfl (by decide +kernel) (rfl) (rfl) (Nat.le_of_ble_eq_true rfl) d_R_passSign_46 (fun H locs hP hD hS => ?_)
      have hP : va_P (gD G) vwC (wR G h dg n (p + 1) fk fp t np no k c f o bt bk bn) H := hP
      have hD : va_D A (wR G h dg n (p + 1) fk fp t np no k c f o bt bk bn) := hD
      exact yr_v (ws := wR G h dg n (p + 1) fk fp t np no k c f o bt bk bn) hx hb hrt hlocks (⟨rfl, by unfold ps sgN hr; first | (rw [if_pos c8, if_pos (decide_eq_true (Or.inl c22))]) | (rw [if_pos c8, if_pos (decide_eq_true (Or.inr c36))]) | (rw [if_neg (Nat.not_lt.mpr c8)]; rfl) | (rw [if_pos c8, if_neg (by rw [decide_eq_false (fun z => z.elim c22 c36)]; decide)])⟩) rfl hK hP hD hS d_R_passSign_49
    · skip
      refine lv_aload_n hx hb d_R_passSign_25 rfl (lv_at hl 0 rfl) ?_
      refine va_get (D := gD G) (ci := 1) (v := .ref (h 1)) (C := "WordShapes$Reader") (T := TR) (N := 8) hx hb hg iw_R hown hK hP 0 rfl rfl 0 (by decide) (hg _ tk_86) (fun _ h9 => h9) rfl d_R_passSign_26 ?_
      refine lv_aload_n hx hb d_R_passSign_29 rfl (lv_at hl 0 rfl) ?_
      refine va_get (D := gD G) (ci := 1) (v := .int (nI p)) (C := "WordShapes$Reader") (T := TR) (N := 8) hx hb hg iw_R hown hK hP 0 rfl rfl 5 (by decide) (hg _ tk_92) (fun _ h9 => h9) rfl d_R_passSign_30 ?_
      refine yn_bald hx hb hK hP 1 1 rfl rfl (j := p) (x := sb_b (t p)) (rfl) (by omega) (by omega) d_R_passSign_33 ?_
      refine lv_bipush (v := nI 45) hx hb d_R_passSign_34 (by decide) ?_
      refine yb_icmp_ne (a := t p) (b := 45) (tgt := 49) hx hb d_R_passSign_36 (by decide) (ht _) (by omega) (fun c36 => ?_) (fun c36 => ?_)
      · skip
        exact yr_v (ws := wR G h dg n p fk fp t np no k c f o bt bk bn) hx hb hrt hlocks (⟨rfl, by unfold ps sgN hr; first | (rw [if_pos c8, if_pos (decide_eq_true (Or.inl c22))]) | (rw [if_pos c8, if_pos (decide_eq_true (Or.inr c36))]) | (rw [if_neg (Nat.not_lt.mpr c8)]; rfl) | (rw [if_pos c8, if_neg (by rw [decide_eq_false (fun z => z.elim c22 c36)]; decide)])⟩) rfl hK hP hD hS d_R_passSign_49
      · skip
        refine lv_aload_n hx hb d_R_passSign_39 rfl (lv_at hl 0 rfl) ?_
        refine lv_dup hx hb d_R_passSign_40 rfl ?_
        refine va_get (D := gD G) (ci := 1) (v := .int (nI p)) (C := "WordShapes$Reader") (T := TR) (N := 8) hx hb hg iw_R hown hK hP 0 rfl rfl 5 (by decide) (hg _ tk_92) (fun _ h9 => h9) rfl d_R_passSign_41 ?_
        refine lv_iconst (v := nI 1) hx hb d_R_passSign_44 (by decide) ?_
        refine lv_iadd hx hb d_R_passSign_45 ?_
        refine y_eqi (nI_add _ _) ?_
        refine va_put (D := gD G) (ci := 1) (v := .int (nI (p + 1))) (ty := .int) (C := "WordShapes$Reader") (T := TR) (N := 8) hx hb hg iw_R ft_R fo_R nm_R hown hK hP hD hS 0 rfl rfl 5 (by decide) (hg _ tk_92) (fun _ h9 => h9) rfl (by decide +kernel) (rfl) (rfl) (Nat.le_of_ble_eq_true rfl) d_R_passSign_46 (fun H locs hP hD hS => ?_)
        have hP : va_P (gD G) vwC (wR G h dg n (p + 1) fk fp t np no k c f o bt bk bn) H := hP
        have hD : va_D A (wR G h dg n (p + 1) fk fp t np no k c f o bt bk bn) := hD
        exact yr_v (ws := wR G h dg n (p + 1) fk fp t np no k c f o bt bk bn) hx hb hrt hlocks (⟨rfl, by unfold ps sgN hr; first | (rw [if_pos c8, if_pos (decide_eq_true (Or.inl c22))]) | (rw [if_pos c8, if_pos (decide_eq_true (Or.inr c36))]) | (rw [if_neg (Nat.not_lt.mpr c8)]; rfl) | (rw [if_pos c8, if_neg (by rw [decide_eq_false (fun z => z.elim c22 c36)]; decide)])⟩) rfl hK hP hD hS d_R_passSign_49
set_option maxHeartbeats 4000000 in
set_option maxRecDepth 100000 in
theorem c_R_fail {l : Launch} (hlt : l.stackTraces = false) (G : gl) (h : Nat → Nat) (dg : Nat) (n : Nat) (p : Nat) (fk : Nat) (fp : Nat) (t : Nat → Nat) (np : Nat) (no : Nat) (k : Nat) (c : Nat) (f : Nat → Int32) (o : Nat → Int32) (bt : Nat) (bk : Nat → Int32) (bn : Nat → Int32) (a : Nat) (b : Nat)  : YC l G y_R_fail k_R_fail 3 (Option.none : Option FieldType) 6 90 [.ref (h 0), .int (nI a), .int (nI b)] (wR G h dg n p fk fp t np no k c f o bt bk bn) (fun _ _ => False) (fun E w => E = "java/lang/IllegalArgumentException" ∧ w = wR G h dg n p a b t np no k c f o bt bk bn) := by
  refine yc_of (by decide) ?_
  intro pg ev sx mm bl mt cd A C0 hP hD
  obtain ⟨hx, hb, hrt, hml, hown, hg, hlocks, hxt, hE, hK, hA, hmn⟩ := C0
  have hS : va_S A sx.heap sx.heap [] := va_S.rf
  have hl := lv_entry ([.ref (h 0), .int (nI a), .int (nI b)]) (n := 3) (Nat.le_of_ble_eq_true rfl)
  rw [lg_entry_eq]
  generalize (lg_sl ([.ref (h 0), .int (nI a), .int (nI b)]) ++ List.replicate (3 - (lg_sl ([.ref (h 0), .int (nI a), .int (nI b)])).length) Slot.unset).toArray = ls at hl ⊢
  have hl : lv_has ls 3 [(0, .ref (h 0)), (1, .int (nI a)), (2, .int (nI b))] := hl
  obtain ⟨H, hH⟩ : ∃ H, H = sx.heap := ⟨_, rfl⟩
  rw [← hH] at hP
  have hS : va_S A sx.heap H [] := by rw [hH]; exact hS
  suffices h9 : W pg l ev (yR 6 90) sx mm _ bl mt cd H [] 0 0 (yMQ bl G A _ _ _ _ sx) (F0 mm 0 ls []) by rw [hH] at h9; exact h9
  obtain ⟨locs, hlo⟩ : ∃ locs : List Loc, locs = [] := ⟨_, rfl⟩
  rw [← hlo] at hS ⊢
  refine lv_aload_n hx hb d_R_fail_0 rfl (lv_at hl 0 rfl) ?_
  refine lv_iload_n hx hb d_R_fail_1 rfl (lv_at hl 1 rfl) ?_
  refine va_put (D := gD G) (ci := 1) (v := .int (nI a)) (ty := .int) (C := "WordShapes$Reader") (T := TR) (N := 8) hx hb hg iw_R ft_R fo_R nm_R hown hK hP hD hS 0 rfl rfl 6 (by decide) (hg _ tk_93) (fun _ h9 => h9) rfl (by decide +kernel) (rfl) (rfl) (Nat.le_of_ble_eq_true rfl) d_R_fail_2 (fun H locs hP hD hS => ?_)
  have hP : va_P (gD G) vwC (wR G h dg n p a fp t np no k c f o bt bk bn) H := hP
  have hD : va_D A (wR G h dg n p a fp t np no k c f o bt bk bn) := hD
  refine lv_aload_n hx hb d_R_fail_5 rfl (lv_at hl 0 rfl) ?_
  refine lv_iload_n hx hb d_R_fail_6 rfl (lv_at hl 2 rfl) ?_
  refine va_put (D := gD G) (ci := 1) (v := .int (nI b)) (ty := .int) (C := "WordShapes$Reader") (T := TR) (N := 8) hx hb hg iw_R ft_R fo_R nm_R hown hK hP hD hS 0 rfl rfl 7 (by decide) (hg _ tk_95) (fun _ h9 => h9) rfl (by decide +kernel) (rfl) (rfl) (Nat.le_of_ble_eq_true rfl) d_R_fail_7 (fun H locs hP hD hS => ?_)
  have hP : va_P (gD G) vwC (wR G h dg n p a b t np no k c f o bt bk bn) H := hP
  have hD : va_D A (wR G h dg n p a b t np no k c f o bt bk bn) := hD
  exact yt_S (ws := wR G h dg n p a b t np no k c f o bt bk bn) hx hb hlt hown xo_R_194_198 (nw_272 hE.1) (sr_375 hE.2.1) hg hE hK hP hD hS hA hml hl.1 hxt hlocks d_R_fail_10 d_R_fail_13 d_R_fail_14 d_R_fail_16 d_R_fail_19 (by decide) (by decide) (⟨rfl, rfl⟩) rfl
set_option maxHeartbeats 4000000 in
set_option maxRecDepth 100000 in
theorem c_R_failHere {l : Launch} (hlt : l.stackTraces = false) (G : gl) (h : Nat → Nat) (dg : Nat) (n : Nat) (p : Nat) (fk : Nat) (fp : Nat) (t : Nat → Nat) (np : Nat) (no : Nat) (k : Nat) (c : Nat) (f : Nat → Int32) (o : Nat → Int32) (bt : Nat) (bk : Nat → Int32) (bn : Nat → Int32)  (hn : n ≤ 65536) (hp : p ≤ n) (ht : ∀ i, t i < 256) : YC l G y_R_failHere k_R_failHere 3 (Option.none : Option FieldType) 7 112 [.ref (h 0)] (wR G h dg n p fk fp t np no k c f o bt bk bn) (fun _ _ => False) (fun E w => E = "java/lang/IllegalArgumentException" ∧ w = wR G h dg n p (uxp (hr t n p)) p t np no k c f o bt bk bn) := by
  refine yc_of (by decide) ?_
  intro pg ev sx mm bl mt cd A C0 hP hD
  obtain ⟨hx, hb, hrt, hml, hown, hg, hlocks, hxt, hE, hK, hA, hmn⟩ := C0
  have hS : va_S A sx.heap sx.heap [] := va_S.rf
  have hl := lv_entry ([.ref (h 0)]) (n := 3) (Nat.le_of_ble_eq_true rfl)
  rw [lg_entry_eq]
  generalize (lg_sl ([.ref (h 0)]) ++ List.replicate (3 - (lg_sl ([.ref (h 0)])).length) Slot.unset).toArray = ls at hl ⊢
  have hl : lv_has ls 3 [(0, .ref (h 0))] := hl
  obtain ⟨H, hH⟩ : ∃ H, H = sx.heap := ⟨_, rfl⟩
  rw [← hH] at hP
  have hS : va_S A sx.heap H [] := by rw [hH]; exact hS
  suffices h9 : W pg l ev (yR 7 112) sx mm _ bl mt cd H [] 0 0 (yMQ bl G A _ _ _ _ sx) (F0 mm 0 ls []) by rw [hH] at h9; exact h9
  obtain ⟨locs, hlo⟩ : ∃ locs : List Loc, locs = [] := ⟨_, rfl⟩
  rw [← hlo] at hS ⊢
  have J42 : ∀ (z : Bool) (hz : z = decide (leN (hr t n p) = true ∨ nuN (hr t n p) = true ∨ hr t n p = 40 ∨ hr t n p = 41 ∨ hr t n p = 44)) (H : Heap) (locs : List Loc) (ls : Array Slot), va_P (gD G) vwC (wR G h dg n p fk fp t np no k c f o bt bk bn) H → va_D A (wR G h dg n p fk fp t np no k c f o bt bk bn) → va_S A sx.heap H locs → lv_has ls 3 [(0, .ref (h 0)), (1, .int (toI (hr t n p)))] → W pg l ev (yR 7 112) sx mm ([.ref (h 0)] : List Value).toArray bl mt cd H locs 0 0 (yMQ bl G A (wR G h dg n p fk fp t np no k c f o bt bk bn).length (fun _ _ => False) (fun E w => E = "java/lang/IllegalArgumentException" ∧ w = wR G h dg n p (uxp (hr t n p)) p t np no k c f o bt bk bn) ([.ref (h 0)] : List Value).toArray sx) (F0 mm 42 ls [.int (bz z)]) := by
    intro z hz H locs ls hP hD hS hl
    refine lv_istore_n (lv' := [(2, .int (bz z)), (0, .ref (h 0)), (1, .int (toI (hr t n p)))]) hx hb d_R_failHere_42 rfl hl (by decide) rfl (fun ls hl => ?_)
    refine lv_aload_n hx hb d_R_failHere_43 rfl (lv_at hl 1 rfl) ?_
    refine lv_iload_n hx hb d_R_failHere_44 rfl (lv_at hl 2 rfl) ?_
    refine lv_iconst (v := (-1)) hx hb d_R_failHere_45 (by decide) ?_
    refine ye_icmp_eq (a := hr t n p) (tgt := 53) hx hb d_R_failHere_46 (by decide) (hr_le ht _ _) (fun c46 => ?_) (fun c46 => ?_)
    · skip
      refine lv_iconst (v := nI 3) hx hb d_R_failHere_53 (by decide) ?_
      refine lv_goto (tgt := 58) hx hb d_R_failHere_54 (by decide) ?_
      refine lv_aload_n hx hb d_R_failHere_58 rfl (lv_at hl 1 rfl) ?_
      refine va_get (D := gD G) (ci := 1) (v := .int (nI p)) (C := "WordShapes$Reader") (T := TR) (N := 8) hx hb hg iw_R hown hK hP 0 rfl rfl 5 (by decide) (hg _ tk_92) (fun _ h9 => h9) rfl d_R_failHere_59 ?_
      refine y_call (y_runV (As := [.int (nI 3), .int (nI p)]) (rest := []) hx hb hml hown (c_R_fail hlt G h dg n p fk fp t np no k c f o bt bk bn 3 p ) (gV (n := 2) hg tk_370 tk_372 (gt_s 8 (by decide +kernel) (by decide +kernel)) tk_4 tk_373 (by decide +kernel) ⟨Nat.le_of_ble_eq_true rfl, Nat.le_of_ble_eq_true rfl⟩) (va_recv hK hP (ci := 1) (q0 := 0) rfl rfl) (y_pre hE hK hP hD hS hA [0, 1, 2, 3, 4, 5, 6, 7] rfl rfl) rfl rfl hl.1 rfl (lv_room (Nat.le_of_ble_eq_true rfl)) d_R_failHere_62 ⟨Nat.le_of_ble_eq_true rfl, Nat.le_of_ble_eq_true rfl⟩) hP hD hS hA [0, 1, 2, 3, 4, 5, 6, 7] rfl (fun E w q ce H locs hp hlw hP hD hS hq1 hq2 hq3 => ?_) (fun _ _ _ _ hp => False.elim hp)
      · skip
        obtain ⟨rfl, rfl⟩ := hp
        have hP : va_P (gD G) vwC (wR G h dg n p 3 p t np no k c f o bt bk bn) H := hP
        have hD : va_D A (wR G h dg n p 3 p t np no k c f o bt bk bn) := hD
        exact y_out (ws := wR G h dg n p 3 p t np no k c f o bt bk bn) hxt hlocks hq1 hq2 hq3 (⟨rfl, by unfold uxp; first | rw [if_pos (Or.inl c46)] | (rw [hz] at c50; rw [if_pos (Or.inr (of_decide_eq_true c50))]) | (rw [hz] at c50; rw [if_neg (fun y => y.elim c46 (of_decide_eq_false c50))])⟩) rfl hK hP hD hS
    · skip
      refine lv_iload_n hx hb d_R_failHere_49 rfl (lv_at hl 0 rfl) ?_
      refine yy_if_eq (P := z) (tgt := 57) hx hb d_R_failHere_50 (by decide) (fun c50 => ?_) (fun c50 => ?_)
      · skip
        refine lv_iconst (v := nI 1) hx hb d_R_failHere_57 (by decide) ?_
        refine lv_aload_n hx hb d_R_failHere_58 rfl (lv_at hl 1 rfl) ?_
        refine va_get (D := gD G) (ci := 1) (v := .int (nI p)) (C := "WordShapes$Reader") (T := TR) (N := 8) hx hb hg iw_R hown hK hP 0 rfl rfl 5 (by decide) (hg _ tk_92) (fun _ h9 => h9) rfl d_R_failHere_59 ?_
        refine y_call (y_runV (As := [.int (nI 1), .int (nI p)]) (rest := []) hx hb hml hown (c_R_fail hlt G h dg n p fk fp t np no k c f o bt bk bn 1 p ) (gV (n := 2) hg tk_370 tk_372 (gt_s 8 (by decide +kernel) (by decide +kernel)) tk_4 tk_373 (by decide +kernel) ⟨Nat.le_of_ble_eq_true rfl, Nat.le_of_ble_eq_true rfl⟩) (va_recv hK hP (ci := 1) (q0 := 0) rfl rfl) (y_pre hE hK hP hD hS hA [0, 1, 2, 3, 4, 5, 6, 7] rfl rfl) rfl rfl hl.1 rfl (lv_room (Nat.le_of_ble_eq_true rfl)) d_R_failHere_62 ⟨Nat.le_of_ble_eq_true rfl, Nat.le_of_ble_eq_true rfl⟩) hP hD hS hA [0, 1, 2, 3, 4, 5, 6, 7] rfl (fun E w q ce H locs hp hlw hP hD hS hq1 hq2 hq3 => ?_) (fun _ _ _ _ hp => False.elim hp)
        · skip
          obtain ⟨rfl, rfl⟩ := hp
          have hP : va_P (gD G) vwC (wR G h dg n p 1 p t np no k c f o bt bk bn) H := hP
          have hD : va_D A (wR G h dg n p 1 p t np no k c f o bt bk bn) := hD
          exact y_out (ws := wR G h dg n p 1 p t np no k c f o bt bk bn) hxt hlocks hq1 hq2 hq3 (⟨rfl, by unfold uxp; first | rw [if_pos (Or.inl c46)] | (rw [hz] at c50; rw [if_pos (Or.inr (of_decide_eq_true c50))]) | (rw [hz] at c50; rw [if_neg (fun y => y.elim c46 (of_decide_eq_false c50))])⟩) rfl hK hP hD hS
      · skip
        refine lv_iconst (v := nI 3) hx hb d_R_failHere_53 (by decide) ?_
        refine lv_goto (tgt := 58) hx hb d_R_failHere_54 (by decide) ?_
        refine lv_aload_n hx hb d_R_failHere_58 rfl (lv_at hl 1 rfl) ?_
        refine va_get (D := gD G) (ci := 1) (v := .int (nI p)) (C := "WordShapes$Reader") (T := TR) (N := 8) hx hb hg iw_R hown hK hP 0 rfl rfl 5 (by decide) (hg _ tk_92) (fun _ h9 => h9) rfl d_R_failHere_59 ?_
        refine y_call (y_runV (As := [.int (nI 3), .int (nI p)]) (rest := []) hx hb hml hown (c_R_fail hlt G h dg n p fk fp t np no k c f o bt bk bn 3 p ) (gV (n := 2) hg tk_370 tk_372 (gt_s 8 (by decide +kernel) (by decide +kernel)) tk_4 tk_373 (by decide +kernel) ⟨Nat.le_of_ble_eq_true rfl, Nat.le_of_ble_eq_true rfl⟩) (va_recv hK hP (ci := 1) (q0 := 0) rfl rfl) (y_pre hE hK hP hD hS hA [0, 1, 2, 3, 4, 5, 6, 7] rfl rfl) rfl rfl hl.1 rfl (lv_room (Nat.le_of_ble_eq_true rfl)) d_R_failHere_62 ⟨Nat.le_of_ble_eq_true rfl, Nat.le_of_ble_eq_true rfl⟩) hP hD hS hA [0, 1, 2, 3, 4, 5, 6, 7] rfl (fun E w q ce H locs hp hlw hP hD hS hq1 hq2 hq3 => ?_) (fun _ _ _ _ hp => False.elim hp)
        · skip
          obtain ⟨rfl, rfl⟩ := hp
          have hP : va_P (gD G) vwC (wR G h dg n p 3 p t np no k c f o bt bk bn) H := hP
          have hD : va_D A (wR G h dg n p 3 p t np no k c f o bt bk bn) := hD
          exact y_out (ws := wR G h dg n p 3 p t np no k c f o bt bk bn) hxt hlocks hq1 hq2 hq3 (⟨rfl, by unfold uxp; first | rw [if_pos (Or.inl c46)] | (rw [hz] at c50; rw [if_pos (Or.inr (of_decide_eq_true c50))]) | (rw [hz] at c50; rw [if_neg (fun y => y.elim c46 (of_decide_eq_false c50))])⟩) rfl hK hP hD hS
  refine lv_aload_n hx hb d_R_failHere_0 rfl (lv_at hl 0 rfl) ?_
  refine y_call (y_runV (As := []) (rest := []) hx hb hml hown (c_R_here l G h dg n p fk fp t np no k c f o bt bk bn  (by omega) (by omega) (ht)) (gV (n := 0) hg tk_356 tk_358 (gt_s 6 (by decide +kernel) (by decide +kernel)) tk_4 tk_359 (by decide +kernel) ⟨Nat.le_of_ble_eq_true rfl, Nat.le_of_ble_eq_true rfl⟩) (va_recv hK hP (ci := 1) (q0 := 0) rfl rfl) (y_pre hE hK hP hD hS hA [0, 1, 2, 3, 4, 5, 6, 7] rfl rfl) rfl rfl hl.1 rfl (lv_room (Nat.le_of_ble_eq_true rfl)) d_R_failHere_1 ⟨Nat.le_of_ble_eq_true rfl, Nat.le_of_ble_eq_true rfl⟩) hP hD hS hA [0, 1, 2, 3, 4, 5, 6, 7] rfl (fun _ _ _ _ _ _ hp => False.elim hp) (fun v w H locs hp hlw hP hD hS => ?_)
  obtain ⟨rfl, rfl⟩ := hp
  have hP : va_P (gD G) vwC (wR G h dg n p fk fp t np no k c f o bt bk bn) H := hP
  have hD : va_D A (wR G h dg n p fk fp t np no k c f o bt bk bn) := hD
  refine W.eq (g2 := F0 mm 4 ls [.int (toI (hr t n p))]) rfl ?_
  refine lv_istore_n (lv' := [(1, .int (toI (hr t n p))), (0, .ref (h 0))]) hx hb d_R_failHere_4 rfl hl (by decide) rfl (fun ls hl => ?_)
  refine lv_iload_n hx hb d_R_failHere_5 rfl (lv_at hl 0 rfl) ?_
  refine y_call (y_runS (As := [.int (toI (hr t n p))]) (rest := []) hx hb hml hown (c_R_isLetter l G  (toI (hr t n p)) ) (gS (n := 1) hg tk_360 tk_361 tk_4 tk_362 (by decide +kernel) ⟨Nat.le_of_ble_eq_true rfl, Nat.le_of_ble_eq_true rfl⟩) (y_pre hE hK hP hD hS hA [] rfl rfl) rfl rfl hl.1 rfl (lv_room (Nat.le_of_ble_eq_true rfl)) d_R_failHere_6 ⟨Nat.le_of_ble_eq_true rfl, Nat.le_of_ble_eq_true rfl⟩) hP hD hS hA [] rfl (fun _ _ _ _ _ _ hp => False.elim hp) (fun v w H locs hp hlw hP hD hS => ?_)
  obtain ⟨rfl, rfl⟩ := hp
  have hP : va_P (gD G) vwC (wR G h dg n p fk fp t np no k c f o bt bk bn) H := hP
  have hD : va_D A (wR G h dg n p fk fp t np no k c f o bt bk bn) := hD
  refine W.eq (g2 := F0 mm 9 ls [.int (bz (isLe (toI (hr t n p))))]) rfl ?_
  refine yy_if_ne (P := isLe (toI (hr t n p))) (tgt := 37) hx hb d_R_failHere_9 (by decide) (fun c9 => ?_) (fun c9 => ?_)
  · skip
    refine lv_iconst (v := nI 1) hx hb d_R_failHere_37 (by decide) ?_
    refine lv_goto (tgt := 42) hx hb d_R_failHere_38 (by decide) ?_
    exact J42 true ((decide_eq_true (by first | exact Or.inl ((ch_h _ (Nat.lt_succ_of_le (hr_le ht _ _))).2.1.symm.trans c9) | exact Or.inr (Or.inl ((ch_h _ (Nat.lt_succ_of_le (hr_le ht _ _))).2.2.2.symm.trans c16)) | exact Or.inr (Or.inr (Or.inl (by assumption))) | exact Or.inr (Or.inr (Or.inr (Or.inl (by assumption)))) | exact Or.inr (Or.inr (Or.inr (Or.inr (by assumption)))))).symm) _ _ _ hP hD hS (lv_sub hl [1, 0] rfl)
  · skip
    refine lv_iload_n hx hb d_R_failHere_12 rfl (lv_at hl 0 rfl) ?_
    refine y_call (y_runS (As := [.int (toI (hr t n p))]) (rest := []) hx hb hml hown (c_R_beginsNumber l G  (toI (hr t n p)) ) (gS (n := 1) hg tk_367 tk_368 tk_4 tk_369 (by decide +kernel) ⟨Nat.le_of_ble_eq_true rfl, Nat.le_of_ble_eq_true rfl⟩) (y_pre hE hK hP hD hS hA [] rfl rfl) rfl rfl hl.1 rfl (lv_room (Nat.le_of_ble_eq_true rfl)) d_R_failHere_13 ⟨Nat.le_of_ble_eq_true rfl, Nat.le_of_ble_eq_true rfl⟩) hP hD hS hA [] rfl (fun _ _ _ _ _ _ hp => False.elim hp) (fun v w H locs hp hlw hP hD hS => ?_)
    obtain ⟨rfl, rfl⟩ := hp
    have hP : va_P (gD G) vwC (wR G h dg n p fk fp t np no k c f o bt bk bn) H := hP
    have hD : va_D A (wR G h dg n p fk fp t np no k c f o bt bk bn) := hD
    refine W.eq (g2 := F0 mm 16 ls [.int (bz (isNu (toI (hr t n p))))]) rfl ?_
    refine yy_if_ne (P := isNu (toI (hr t n p))) (tgt := 37) hx hb d_R_failHere_16 (by decide) (fun c16 => ?_) (fun c16 => ?_)
    · skip
      refine lv_iconst (v := nI 1) hx hb d_R_failHere_37 (by decide) ?_
      refine lv_goto (tgt := 42) hx hb d_R_failHere_38 (by decide) ?_
      exact J42 true ((decide_eq_true (by first | exact Or.inl ((ch_h _ (Nat.lt_succ_of_le (hr_le ht _ _))).2.1.symm.trans c9) | exact Or.inr (Or.inl ((ch_h _ (Nat.lt_succ_of_le (hr_le ht _ _))).2.2.2.symm.trans c16)) | exact Or.inr (Or.inr (Or.inl (by assumption))) | exact Or.inr (Or.inr (Or.inr (Or.inl (by assumption)))) | exact Or.inr (Or.inr (Or.inr (Or.inr (by assumption)))))).symm) _ _ _ hP hD hS (lv_sub hl [1, 0] rfl)
    · skip
      refine lv_iload_n hx hb d_R_failHere_19 rfl (lv_at hl 0 rfl) ?_
      refine lv_bipush (v := nI 40) hx hb d_R_failHere_20 (by decide) ?_
      refine yh_icmp_eq (a := hr t n p) (b := 40) (tgt := 37) hx hb d_R_failHere_22 (by decide) (hr_le ht _ _) (by omega) (fun c22 => ?_) (fun c22 => ?_)
      · skip
        refine lv_iconst (v := nI 1) hx hb d_R_failHere_37 (by decide) ?_
        refine lv_goto (tgt := 42) hx hb d_R_failHere_38 (by decide) ?_
        exact J42 true ((decide_eq_true (by first | exact Or.inl ((ch_h _ (Nat.lt_succ_of_le (hr_le ht _ _))).2.1.symm.trans c9) | exact Or.inr (Or.inl ((ch_h _ (Nat.lt_succ_of_le (hr_le ht _ _))).2.2.2.symm.trans c16)) | exact Or.inr (Or.inr (Or.inl (by assumption))) | exact Or.inr (Or.inr (Or.inr (Or.inl (by assumption)))) | exact Or.inr (Or.inr (Or.inr (Or.inr (by assumption)))))).symm) _ _ _ hP hD hS (lv_sub hl [1, 0] rfl)
      · skip
        refine lv_iload_n hx hb d_R_failHere_25 rfl (lv_at hl 0 rfl) ?_
        refine lv_bipush (v := nI 41) hx hb d_R_failHere_26 (by decide) ?_
        refine yh_icmp_eq (a := hr t n p) (b := 41) (tgt := 37) hx hb d_R_failHere_28 (by decide) (hr_le ht _ _) (by omega) (fun c28 => ?_) (fun c28 => ?_)
        · skip
          refine lv_iconst (v := nI 1) hx hb d_R_failHere_37 (by decide) ?_
          refine lv_goto (tgt := 42) hx hb d_R_failHere_38 (by decide) ?_
          exact J42 true ((decide_eq_true (by first | exact Or.inl ((ch_h _ (Nat.lt_succ_of_le (hr_le ht _ _))).2.1.symm.trans c9) | exact Or.inr (Or.inl ((ch_h _ (Nat.lt_succ_of_le (hr_le ht _ _))).2.2.2.symm.trans c16)) | exact Or.inr (Or.inr (Or.inl (by assumption))) | exact Or.inr (Or.inr (Or.inr (Or.inl (by assumption)))) | exact Or.inr (Or.inr (Or.inr (Or.inr (by assumption)))))).symm) _ _ _ hP hD hS (lv_sub hl [1, 0] rfl)
        · skip
          refine lv_iload_n hx hb d_R_failHere_31 rfl (lv_at hl 0 rfl) ?_
          refine lv_bipush (v := nI 44) hx hb d_R_failHere_32 (by decide) ?_
          refine yh_icmp_ne (a := hr t n p) (b := 44) (tgt := 41) hx hb d_R_failHere_34 (by decide) (hr_le ht _ _) (by omega) (fun c34 => ?_) (fun c34 => ?_)
          · skip
            refine lv_iconst (v := nI 0) hx hb d_R_failHere_41 (by decide) ?_
            exact J42 false ((decide_eq_false (by rw [(ch_h _ (Nat.lt_succ_of_le (hr_le ht _ _))).2.1] at c9; rw [(ch_h _ (Nat.lt_succ_of_le (hr_le ht _ _))).2.2.2] at c16; intro y; rcases y with y | y | y | y | y <;> first | contradiction | (rw [c9] at y; exact absurd y (by decide)) | (rw [c16] at y; exact absurd y (by decide)))).symm) _ _ _ hP hD hS (lv_sub hl [1, 0] rfl)
          · skip
            refine lv_iconst (v := nI 1) hx hb d_R_failHere_37 (by decide) ?_
            refine lv_goto (tgt := 42) hx hb d_R_failHere_38 (by decide) ?_
            exact J42 true ((decide_eq_true (by first | exact Or.inl ((ch_h _ (Nat.lt_succ_of_le (hr_le ht _ _))).2.1.symm.trans c9) | exact Or.inr (Or.inl ((ch_h _ (Nat.lt_succ_of_le (hr_le ht _ _))).2.2.2.symm.trans c16)) | exact Or.inr (Or.inr (Or.inl (by assumption))) | exact Or.inr (Or.inr (Or.inr (Or.inl (by assumption)))) | exact Or.inr (Or.inr (Or.inr (Or.inr (by assumption)))))).symm) _ _ _ hP hD hS (lv_sub hl [1, 0] rfl)
set_option maxHeartbeats 4000000 in
set_option maxRecDepth 100000 in
theorem c_R_pass {l : Launch} (hlt : l.stackTraces = false) (G : gl) (h : Nat → Nat) (dg : Nat) (n : Nat) (p : Nat) (fk : Nat) (fp : Nat) (t : Nat → Nat) (np : Nat) (no : Nat) (k : Nat) (c : Nat) (f : Nat → Int32) (o : Nat → Int32) (bt : Nat) (bk : Nat → Int32) (bn : Nat → Int32) (x : Nat) (hn : n ≤ 65536) (hp : p ≤ n) (ht : ∀ i, t i < 256) (hx9 : x < 256) : YC l G y_R_pass k_R_pass 2 (Option.none : Option FieldType) 8 134 [.ref (h 0), .int (nI x)] (wR G h dg n p fk fp t np no k c f o bt bk bn) (fun v w => (hr t n p = x) ∧ v = none ∧ w = wR G h dg n (p + 1) fk fp t np no k c f o bt bk bn) (fun E w => (¬ hr t n p = x) ∧ E = "java/lang/IllegalArgumentException" ∧ w = wR G h dg n p (uxp (hr t n p)) p t np no k c f o bt bk bn) := by
  refine yc_of (by decide) ?_
  intro pg ev sx mm bl mt cd A C0 hP hD
  obtain ⟨hx, hb, hrt, hml, hown, hg, hlocks, hxt, hE, hK, hA, hmn⟩ := C0
  have hS : va_S A sx.heap sx.heap [] := va_S.rf
  have hl := lv_entry ([.ref (h 0), .int (nI x)]) (n := 2) (Nat.le_of_ble_eq_true rfl)
  rw [lg_entry_eq]
  generalize (lg_sl ([.ref (h 0), .int (nI x)]) ++ List.replicate (2 - (lg_sl ([.ref (h 0), .int (nI x)])).length) Slot.unset).toArray = ls at hl ⊢
  have hl : lv_has ls 2 [(0, .ref (h 0)), (1, .int (nI x))] := hl
  obtain ⟨H, hH⟩ : ∃ H, H = sx.heap := ⟨_, rfl⟩
  rw [← hH] at hP
  have hS : va_S A sx.heap H [] := by rw [hH]; exact hS
  suffices h9 : W pg l ev (yR 8 134) sx mm _ bl mt cd H [] 0 0 (yMQ bl G A _ _ _ _ sx) (F0 mm 0 ls []) by rw [hH] at h9; exact h9
  obtain ⟨locs, hlo⟩ : ∃ locs : List Loc, locs = [] := ⟨_, rfl⟩
  rw [← hlo] at hS ⊢
  refine lv_aload_n hx hb d_R_pass_0 rfl (lv_at hl 0 rfl) ?_
  refine y_call (y_runV (As := []) (rest := []) hx hb hml hown (c_R_here l G h dg n p fk fp t np no k c f o bt bk bn  (by omega) (by omega) (ht)) (gV (n := 0) hg tk_356 tk_358 (gt_s 6 (by decide +kernel) (by decide +kernel)) tk_4 tk_359 (by decide +kernel) ⟨Nat.le_of_ble_eq_true rfl, Nat.le_of_ble_eq_true rfl⟩) (va_recv hK hP (ci := 1) (q0 := 0) rfl rfl) (y_pre hE hK hP hD hS hA [0, 1, 2, 3, 4, 5, 6, 7] rfl rfl) rfl rfl hl.1 rfl (lv_room (Nat.le_of_ble_eq_true rfl)) d_R_pass_1 ⟨Nat.le_of_ble_eq_true rfl, Nat.le_of_ble_eq_true rfl⟩) hP hD hS hA [0, 1, 2, 3, 4, 5, 6, 7] rfl (fun _ _ _ _ _ _ hp => False.elim hp) (fun v w H locs hp hlw hP hD hS => ?_)
  obtain ⟨rfl, rfl⟩ := hp
  have hP : va_P (gD G) vwC (wR G h dg n p fk fp t np no k c f o bt bk bn) H := hP
  have hD : va_D A (wR G h dg n p fk fp t np no k c f o bt bk bn) := hD
  refine W.eq (g2 := F0 mm 4 ls [.int (toI (hr t n p))]) rfl ?_
  refine lv_iload_n hx hb d_R_pass_4 rfl (lv_at hl 1 rfl) ?_
  refine yh_icmp_eq (a := hr t n p) (b := x) (tgt := 12) hx hb d_R_pass_5 (by decide) (hr_le ht _ _) (by omega) (fun c5 => ?_) (fun c5 => ?_)
  · skip
    refine lv_aload_n hx hb d_R_pass_12 rfl (lv_at hl 0 rfl) ?_
    refine lv_dup hx hb d_R_pass_13 rfl ?_
    refine va_get (D := gD G) (ci := 1) (v := .int (nI p)) (C := "WordShapes$Reader") (T := TR) (N := 8) hx hb hg iw_R hown hK hP 0 rfl rfl 5 (by decide) (hg _ tk_92) (fun _ h9 => h9) rfl d_R_pass_14 ?_
    refine lv_iconst (v := nI 1) hx hb d_R_pass_17 (by decide) ?_
    refine lv_iadd hx hb d_R_pass_18 ?_
    refine y_eqi (nI_add _ _) ?_
    refine va_put (D := gD G) (ci := 1) (v := .int (nI (p + 1))) (ty := .int) (C := "WordShapes$Reader") (T := TR) (N := 8) hx hb hg iw_R ft_R fo_R nm_R hown hK hP hD hS 0 rfl rfl 5 (by decide) (hg _ tk_92) (fun _ h9 => h9) rfl (by decide +kernel) (rfl) (rfl) (Nat.le_of_ble_eq_true rfl) d_R_pass_19 (fun H locs hP hD hS => ?_)
    have hP : va_P (gD G) vwC (wR G h dg n (p + 1) fk fp t np no k c f o bt bk bn) H := hP
    have hD : va_D A (wR G h dg n (p + 1) fk fp t np no k c f o bt bk bn) := hD
    exact yr_v (ws := wR G h dg n (p + 1) fk fp t np no k c f o bt bk bn) hx hb hrt hlocks (⟨c5, rfl, rfl⟩) rfl hK hP hD hS d_R_pass_22
  · skip
    refine lv_aload_n hx hb d_R_pass_8 rfl (lv_at hl 0 rfl) ?_
    refine y_call (y_runV (As := []) (rest := []) hx hb hml hown (c_R_failHere hlt G h dg n p fk fp t np no k c f o bt bk bn  (by omega) (by omega) (ht)) (gV (n := 0) hg tk_363 tk_365 (gt_s 7 (by decide +kernel) (by decide +kernel)) tk_4 tk_366 (by decide +kernel) ⟨Nat.le_of_ble_eq_true rfl, Nat.le_of_ble_eq_true rfl⟩) (va_recv hK hP (ci := 1) (q0 := 0) rfl rfl) (y_pre hE hK hP hD hS hA [0, 1, 2, 3, 4, 5, 6, 7] rfl rfl) rfl rfl hl.1 rfl (lv_room (Nat.le_of_ble_eq_true rfl)) d_R_pass_9 ⟨Nat.le_of_ble_eq_true rfl, Nat.le_of_ble_eq_true rfl⟩) hP hD hS hA [0, 1, 2, 3, 4, 5, 6, 7] rfl (fun E w q ce H locs hp hlw hP hD hS hq1 hq2 hq3 => ?_) (fun _ _ _ _ hp => False.elim hp)
    · skip
      obtain ⟨rfl, rfl⟩ := hp
      have hP : va_P (gD G) vwC (wR G h dg n p (uxp (hr t n p)) p t np no k c f o bt bk bn) H := hP
      have hD : va_D A (wR G h dg n p (uxp (hr t n p)) p t np no k c f o bt bk bn) := hD
      exact y_out (ws := wR G h dg n p (uxp (hr t n p)) p t np no k c f o bt bk bn) hxt hlocks hq1 hq2 hq3 (⟨c5, rfl, rfl⟩) rfl hK hP hD hS
end
section
set_option maxHeartbeats 4000000 in
set_option maxRecDepth 100000 in
theorem c_R_tenfold (l : Launch) (G : gl)  (u : Nat) (hu : u < 2 ^ 59) : YC l G y_R_tenfold k_R_tenfold 2 (Option.some FieldType.long) 0 0 [.long (lN u)] ([]) (fun v w => v = some (.long (lN (tfU 1000000000 u))) ∧ w = []) (fun _ _ => False) := by
  refine yc_of (by decide) ?_
  intro pg ev sx mm bl mt cd A C0 hP hD
  obtain ⟨hx, hb, hrt, hml, hown, hg, hlocks, hxt, hE, hK, hA, hmn⟩ := C0
  have hS : va_S A sx.heap sx.heap [] := va_S.rf
  have hl := lv_entry ([.long (lN u)]) (n := 2) (Nat.le_of_ble_eq_true rfl)
  rw [lg_entry_eq]
  generalize (lg_sl ([.long (lN u)]) ++ List.replicate (2 - (lg_sl ([.long (lN u)])).length) Slot.unset).toArray = ls at hl ⊢
  have hl : lv_has ls 2 [(0, .long (lN u))] := hl
  obtain ⟨H, hH⟩ : ∃ H, H = sx.heap := ⟨_, rfl⟩
  rw [← hH] at hP
  have hS : va_S A sx.heap H [] := by rw [hH]; exact hS
  suffices h9 : W pg l ev (yR 0 0) sx mm _ bl mt cd H [] 0 0 (yMQ bl G A _ _ _ _ sx) (F0 mm 0 ls []) by rw [hH] at h9; exact h9
  obtain ⟨locs, hlo⟩ : ∃ locs : List Loc, locs = [] := ⟨_, rfl⟩
  rw [← hlo] at hS ⊢
  refine lv_lload_n hx hb d_R_tenfold_0 rfl (lv_at hl 0 rfl) ?_
  refine lv_ldc2 (v := lN 1000000000) hx hb hown (hg _ tk_511) d_R_tenfold_1 ?_
  refine yl_le (a := u) (b := 1000000000) (tgt := 12) hx hb d_R_tenfold_4 d_R_tenfold_5 (by decide) (by omega) (by omega) (fun c5 => ?_) (fun c5 => ?_)
  · skip
    refine lv_ldc2 (v := lN 10) hx hb hown (hg _ tk_512) d_R_tenfold_12 ?_
    refine lv_lload_n hx hb d_R_tenfold_15 rfl (lv_at hl 0 rfl) ?_
    refine lv_lmul hx hb d_R_tenfold_16 ?_
    refine y_eql (lN_mul _ _) ?_
    exact yr_l (ws := []) hx hb hrt hlocks (⟨by unfold tfU; first | rw [if_pos c5] | rw [if_neg (by omega)], rfl⟩) rfl hK hP hD hS d_R_tenfold_17
  · skip
    refine lv_lload_n hx hb d_R_tenfold_8 rfl (lv_at hl 0 rfl) ?_
    refine lv_goto (tgt := 17) hx hb d_R_tenfold_9 (by decide) ?_
    exact yr_l (ws := []) hx hb hrt hlocks (⟨by unfold tfU; first | rw [if_pos c5] | rw [if_neg (by omega)], rfl⟩) rfl hK hP hD hS d_R_tenfold_17
set_option maxHeartbeats 4000000 in
set_option maxRecDepth 100000 in
theorem c_R_roundedUnits (l : Launch) (G : gl) (h : Nat → Nat) (dg : Nat) (n : Nat) (p : Nat) (fk : Nat) (fp : Nat) (t : Nat → Nat) (np : Nat) (no : Nat) (k : Nat) (c : Nat) (f : Nat → Int32) (o : Nat → Int32) (bt : Nat) (bk : Nat → Int32) (bn : Nat → Int32) (a : Nat) (b : Nat) (wh : Int32) (hn : n ≤ 65536) (hp : p ≤ n) (ht : ∀ i, t i < 256) (hab : a ≤ b) (hb9 : b ≤ n) : YC l G y_R_roundedUnits k_R_roundedUnits 11 (Option.some FieldType.long) 1 21 [.ref (h 0), .int (nI a), .int (nI b), .int wh] (wR G h dg n p fk fp t np no k c f o bt bk bn) (fun v w => ∃ r, v = some (.long (lN r)) ∧ cpr 1000000000 (exR t a b wh.toInt) r ∧ r < 2 ^ 40 ∧ w = wR G h dg n p fk fp t np no k c f o bt bk bn) (fun _ _ => False) := by
  refine yc_of (by decide) ?_
  intro pg ev sx mm bl mt cd A C0 hP hD
  obtain ⟨hx, hb, hrt, hml, hown, hg, hlocks, hxt, hE, hK, hA, hmn⟩ := C0
  have hS : va_S A sx.heap sx.heap [] := va_S.rf
  have hl := lv_entry ([.ref (h 0), .int (nI a), .int (nI b), .int wh]) (n := 11) (Nat.le_of_ble_eq_true rfl)
  rw [lg_entry_eq]
  generalize (lg_sl ([.ref (h 0), .int (nI a), .int (nI b), .int wh]) ++ List.replicate (11 - (lg_sl ([.ref (h 0), .int (nI a), .int (nI b), .int wh])).length) Slot.unset).toArray = ls at hl ⊢
  have hl : lv_has ls 11 [(0, .ref (h 0)), (1, .int (nI a)), (2, .int (nI b)), (3, .int wh)] := hl
  obtain ⟨H, hH⟩ : ∃ H, H = sx.heap := ⟨_, rfl⟩
  rw [← hH] at hP
  have hS : va_S A sx.heap H [] := by rw [hH]; exact hS
  suffices h9 : W pg l ev (yR 1 21) sx mm _ bl mt cd H [] 0 0 (yMQ bl G A _ _ _ _ sx) (F0 mm 0 ls []) by rw [hH] at h9; exact h9
  obtain ⟨locs, hlo⟩ : ∃ locs : List Loc, locs = [] := ⟨_, rfl⟩
  rw [← hlo] at hS ⊢
  have J135 : ∀ (u : Nat) (sn : Nat) (te : Nat) (mo : Bool) (ue : Nat) (hte : te ≤ 9) (hu : u ≤ 11000000000) (hc : cpr 1000000000 (ue * 10 ^ (wh.toInt - sn).toNat) u) (hf : exF t wh.toInt (b - a) a 0 0 0 false = (ue, sn, te, mo)) (H : Heap) (locs : List Loc) (ls : Array Slot), va_P (gD G) vwC (wR G h dg n p fk fp t np no k c f o bt bk bn) H → va_D A (wR G h dg n p fk fp t np no k c f o bt bk bn) → va_S A sx.heap H locs → lv_has ls 11 [(4, .long (lN u)), (7, .int (nI te)), (8, .int (bz mo))] → W pg l ev (yR 1 21) sx mm ([.ref (h 0), .int (nI a), .int (nI b), .int wh] : List Value).toArray bl mt cd H locs 0 0 (yMQ bl G A (wR G h dg n p fk fp t np no k c f o bt bk bn).length (fun v w => ∃ r, v = some (.long (lN r)) ∧ cpr 1000000000 (exR t a b wh.toInt) r ∧ r < 2 ^ 40 ∧ w = wR G h dg n p fk fp t np no k c f o bt bk bn) (fun _ _ => False) ([.ref (h 0), .int (nI a), .int (nI b), .int wh] : List Value).toArray sx) (F0 mm 135 ls []) := by
    intro u sn te mo ue hte hu hc hf H locs ls hP hD hS hl
    refine lv_lload hx hb d_R_roundedUnits_135 (lv_at hl 0 rfl) ?_
    refine lv_lconst (v := lN 1) hx hb d_R_roundedUnits_137 (by decide) ?_
    refine lv_land hx hb d_R_roundedUnits_138 ?_
    refine y_eql (y := lN (u % 2)) (lN_a1 (by omega)) ?_
    refine lv_lconst (v := lN 1) hx hb d_R_roundedUnits_139 (by decide) ?_
    refine yl_ne (a := u % 2) (b := 1) (tgt := 148) hx hb d_R_roundedUnits_140 d_R_roundedUnits_141 (by decide) (by omega) (by omega) (fun c141 => ?_) (fun c141 => ?_)
    · skip
      refine lv_iconst (v := nI 0) hx hb d_R_roundedUnits_148 (by decide) ?_
      refine lv_istore (lv' := [(9, .int (nI 0)), (4, .long (lN u)), (7, .int (nI te)), (8, .int (bz mo))]) hx hb d_R_roundedUnits_149 hl (by decide) rfl (fun ls hl => ?_)
      refine lv_iload hx hb d_R_roundedUnits_151 (lv_at hl 2 rfl) ?_
      refine lv_iconst (v := nI 5) hx hb d_R_roundedUnits_153 (by decide) ?_
      refine yn_icmp_gt (a := te) (b := 5) (tgt := 173) hx hb d_R_roundedUnits_154 (by decide) (by omega) (by omega) (fun c154 => ?_) (fun c154 => ?_)
      · skip
        refine lv_lload hx hb d_R_roundedUnits_173 (lv_at hl 1 rfl) ?_
        refine lv_lconst (v := lN 1) hx hb d_R_roundedUnits_175 (by decide) ?_
        refine lv_ladd hx hb d_R_roundedUnits_176 ?_
        refine y_eql (lN_add _ _) ?_
        refine lv_goto (tgt := 182) hx hb d_R_roundedUnits_177 (by decide) ?_
        exact yr_l (ws := wR G h dg n p fk fp t np no k c f o bt bk bn) hx hb hrt hlocks (⟨_, rfl, by unfold exR; rw [hf]; have h8 := cpr_rnd te mo hc; first | exact absurd rfl c170 | (rw [show rndU u te mo = u + 1 from if_pos (by first | exact Or.inl c154 | exact Or.inr ⟨by omega, Or.inl c165⟩ | exact Or.inr ⟨by omega, Or.inr c141⟩)] at h8; exact h8) | (rw [show rndU u te mo = u from if_neg (fun z => by rcases z with z | ⟨z1, z2 | z2⟩ <;> first | omega | (rw [c165] at z2; exact absurd z2 (by decide)))] at h8; exact h8), by omega, rfl⟩) rfl hK hP hD hS d_R_roundedUnits_182
      · skip
        refine lv_iload hx hb d_R_roundedUnits_157 (lv_at hl 2 rfl) ?_
        refine lv_iconst (v := nI 5) hx hb d_R_roundedUnits_159 (by decide) ?_
        refine yn_icmp_ne (a := te) (b := 5) (tgt := 180) hx hb d_R_roundedUnits_160 (by decide) (by omega) (by omega) (fun c160 => ?_) (fun c160 => ?_)
        · skip
          refine lv_lload hx hb d_R_roundedUnits_180 (lv_at hl 1 rfl) ?_
          exact yr_l (ws := wR G h dg n p fk fp t np no k c f o bt bk bn) hx hb hrt hlocks (⟨_, rfl, by unfold exR; rw [hf]; have h8 := cpr_rnd te mo hc; first | exact absurd rfl c170 | (rw [show rndU u te mo = u + 1 from if_pos (by first | exact Or.inl c154 | exact Or.inr ⟨by omega, Or.inl c165⟩ | exact Or.inr ⟨by omega, Or.inr c141⟩)] at h8; exact h8) | (rw [show rndU u te mo = u from if_neg (fun z => by rcases z with z | ⟨z1, z2 | z2⟩ <;> first | omega | (rw [c165] at z2; exact absurd z2 (by decide)))] at h8; exact h8), by omega, rfl⟩) rfl hK hP hD hS d_R_roundedUnits_182
        · skip
          refine lv_iload hx hb d_R_roundedUnits_163 (lv_at hl 3 rfl) ?_
          refine yy_if_ne (P := mo) (tgt := 173) hx hb d_R_roundedUnits_165 (by decide) (fun c165 => ?_) (fun c165 => ?_)
          · skip
            refine lv_lload hx hb d_R_roundedUnits_173 (lv_at hl 1 rfl) ?_
            refine lv_lconst (v := lN 1) hx hb d_R_roundedUnits_175 (by decide) ?_
            refine lv_ladd hx hb d_R_roundedUnits_176 ?_
            refine y_eql (lN_add _ _) ?_
            refine lv_goto (tgt := 182) hx hb d_R_roundedUnits_177 (by decide) ?_
            exact yr_l (ws := wR G h dg n p fk fp t np no k c f o bt bk bn) hx hb hrt hlocks (⟨_, rfl, by unfold exR; rw [hf]; have h8 := cpr_rnd te mo hc; first | exact absurd rfl c170 | (rw [show rndU u te mo = u + 1 from if_pos (by first | exact Or.inl c154 | exact Or.inr ⟨by omega, Or.inl c165⟩ | exact Or.inr ⟨by omega, Or.inr c141⟩)] at h8; exact h8) | (rw [show rndU u te mo = u from if_neg (fun z => by rcases z with z | ⟨z1, z2 | z2⟩ <;> first | omega | (rw [c165] at z2; exact absurd z2 (by decide)))] at h8; exact h8), by omega, rfl⟩) rfl hK hP hD hS d_R_roundedUnits_182
          · skip
            refine lv_iload hx hb d_R_roundedUnits_168 (lv_at hl 0 rfl) ?_
            refine yn_if_eq (a := 0) (tgt := 180) hx hb d_R_roundedUnits_170 (by decide) (by omega) (fun c170 => ?_) (fun c170 => ?_)
            · skip
              refine lv_lload hx hb d_R_roundedUnits_180 (lv_at hl 1 rfl) ?_
              exact yr_l (ws := wR G h dg n p fk fp t np no k c f o bt bk bn) hx hb hrt hlocks (⟨_, rfl, by unfold exR; rw [hf]; have h8 := cpr_rnd te mo hc; first | exact absurd rfl c170 | (rw [show rndU u te mo = u + 1 from if_pos (by first | exact Or.inl c154 | exact Or.inr ⟨by omega, Or.inl c165⟩ | exact Or.inr ⟨by omega, Or.inr c141⟩)] at h8; exact h8) | (rw [show rndU u te mo = u from if_neg (fun z => by rcases z with z | ⟨z1, z2 | z2⟩ <;> first | omega | (rw [c165] at z2; exact absurd z2 (by decide)))] at h8; exact h8), by omega, rfl⟩) rfl hK hP hD hS d_R_roundedUnits_182
            · skip
              refine lv_lload hx hb d_R_roundedUnits_173 (lv_at hl 1 rfl) ?_
              refine lv_lconst (v := lN 1) hx hb d_R_roundedUnits_175 (by decide) ?_
              refine lv_ladd hx hb d_R_roundedUnits_176 ?_
              refine y_eql (lN_add _ _) ?_
              refine lv_goto (tgt := 182) hx hb d_R_roundedUnits_177 (by decide) ?_
              exact yr_l (ws := wR G h dg n p fk fp t np no k c f o bt bk bn) hx hb hrt hlocks (⟨_, rfl, by unfold exR; rw [hf]; have h8 := cpr_rnd te mo hc; first | exact absurd rfl c170 | (rw [show rndU u te mo = u + 1 from if_pos (by first | exact Or.inl c154 | exact Or.inr ⟨by omega, Or.inl c165⟩ | exact Or.inr ⟨by omega, Or.inr c141⟩)] at h8; exact h8) | (rw [show rndU u te mo = u from if_neg (fun z => by rcases z with z | ⟨z1, z2 | z2⟩ <;> first | omega | (rw [c165] at z2; exact absurd z2 (by decide)))] at h8; exact h8), by omega, rfl⟩) rfl hK hP hD hS d_R_roundedUnits_182
    · skip
      refine lv_iconst (v := nI 1) hx hb d_R_roundedUnits_144 (by decide) ?_
      refine lv_goto (tgt := 149) hx hb d_R_roundedUnits_145 (by decide) ?_
      refine lv_istore (lv' := [(9, .int (nI 1)), (4, .long (lN u)), (7, .int (nI te)), (8, .int (bz mo))]) hx hb d_R_roundedUnits_149 hl (by decide) rfl (fun ls hl => ?_)
      refine lv_iload hx hb d_R_roundedUnits_151 (lv_at hl 2 rfl) ?_
      refine lv_iconst (v := nI 5) hx hb d_R_roundedUnits_153 (by decide) ?_
      refine yn_icmp_gt (a := te) (b := 5) (tgt := 173) hx hb d_R_roundedUnits_154 (by decide) (by omega) (by omega) (fun c154 => ?_) (fun c154 => ?_)
      · skip
        refine lv_lload hx hb d_R_roundedUnits_173 (lv_at hl 1 rfl) ?_
        refine lv_lconst (v := lN 1) hx hb d_R_roundedUnits_175 (by decide) ?_
        refine lv_ladd hx hb d_R_roundedUnits_176 ?_
        refine y_eql (lN_add _ _) ?_
        refine lv_goto (tgt := 182) hx hb d_R_roundedUnits_177 (by decide) ?_
        exact yr_l (ws := wR G h dg n p fk fp t np no k c f o bt bk bn) hx hb hrt hlocks (⟨_, rfl, by unfold exR; rw [hf]; have h8 := cpr_rnd te mo hc; first | exact absurd rfl c170 | (rw [show rndU u te mo = u + 1 from if_pos (by first | exact Or.inl c154 | exact Or.inr ⟨by omega, Or.inl c165⟩ | exact Or.inr ⟨by omega, Or.inr c141⟩)] at h8; exact h8) | (rw [show rndU u te mo = u from if_neg (fun z => by rcases z with z | ⟨z1, z2 | z2⟩ <;> first | omega | (rw [c165] at z2; exact absurd z2 (by decide)))] at h8; exact h8), by omega, rfl⟩) rfl hK hP hD hS d_R_roundedUnits_182
      · skip
        refine lv_iload hx hb d_R_roundedUnits_157 (lv_at hl 2 rfl) ?_
        refine lv_iconst (v := nI 5) hx hb d_R_roundedUnits_159 (by decide) ?_
        refine yn_icmp_ne (a := te) (b := 5) (tgt := 180) hx hb d_R_roundedUnits_160 (by decide) (by omega) (by omega) (fun c160 => ?_) (fun c160 => ?_)
        · skip
          refine lv_lload hx hb d_R_roundedUnits_180 (lv_at hl 1 rfl) ?_
          exact yr_l (ws := wR G h dg n p fk fp t np no k c f o bt bk bn) hx hb hrt hlocks (⟨_, rfl, by unfold exR; rw [hf]; have h8 := cpr_rnd te mo hc; first | exact absurd rfl c170 | (rw [show rndU u te mo = u + 1 from if_pos (by first | exact Or.inl c154 | exact Or.inr ⟨by omega, Or.inl c165⟩ | exact Or.inr ⟨by omega, Or.inr c141⟩)] at h8; exact h8) | (rw [show rndU u te mo = u from if_neg (fun z => by rcases z with z | ⟨z1, z2 | z2⟩ <;> first | omega | (rw [c165] at z2; exact absurd z2 (by decide)))] at h8; exact h8), by omega, rfl⟩) rfl hK hP hD hS d_R_roundedUnits_182
        · skip
          refine lv_iload hx hb d_R_roundedUnits_163 (lv_at hl 3 rfl) ?_
          refine yy_if_ne (P := mo) (tgt := 173) hx hb d_R_roundedUnits_165 (by decide) (fun c165 => ?_) (fun c165 => ?_)
          · skip
            refine lv_lload hx hb d_R_roundedUnits_173 (lv_at hl 1 rfl) ?_
            refine lv_lconst (v := lN 1) hx hb d_R_roundedUnits_175 (by decide) ?_
            refine lv_ladd hx hb d_R_roundedUnits_176 ?_
            refine y_eql (lN_add _ _) ?_
            refine lv_goto (tgt := 182) hx hb d_R_roundedUnits_177 (by decide) ?_
            exact yr_l (ws := wR G h dg n p fk fp t np no k c f o bt bk bn) hx hb hrt hlocks (⟨_, rfl, by unfold exR; rw [hf]; have h8 := cpr_rnd te mo hc; first | exact absurd rfl c170 | (rw [show rndU u te mo = u + 1 from if_pos (by first | exact Or.inl c154 | exact Or.inr ⟨by omega, Or.inl c165⟩ | exact Or.inr ⟨by omega, Or.inr c141⟩)] at h8; exact h8) | (rw [show rndU u te mo = u from if_neg (fun z => by rcases z with z | ⟨z1, z2 | z2⟩ <;> first | omega | (rw [c165] at z2; exact absurd z2 (by decide)))] at h8; exact h8), by omega, rfl⟩) rfl hK hP hD hS d_R_roundedUnits_182
          · skip
            refine lv_iload hx hb d_R_roundedUnits_168 (lv_at hl 0 rfl) ?_
            refine yn_if_eq (a := 1) (tgt := 180) hx hb d_R_roundedUnits_170 (by decide) (by omega) (fun c170 => ?_) (fun c170 => ?_)
            · skip
              refine lv_lload hx hb d_R_roundedUnits_180 (lv_at hl 1 rfl) ?_
              exact yr_l (ws := wR G h dg n p fk fp t np no k c f o bt bk bn) hx hb hrt hlocks (⟨_, rfl, by unfold exR; rw [hf]; have h8 := cpr_rnd te mo hc; first | exact absurd rfl c170 | (rw [show rndU u te mo = u + 1 from if_pos (by first | exact Or.inl c154 | exact Or.inr ⟨by omega, Or.inl c165⟩ | exact Or.inr ⟨by omega, Or.inr c141⟩)] at h8; exact h8) | (rw [show rndU u te mo = u from if_neg (fun z => by rcases z with z | ⟨z1, z2 | z2⟩ <;> first | omega | (rw [c165] at z2; exact absurd z2 (by decide)))] at h8; exact h8), by omega, rfl⟩) rfl hK hP hD hS d_R_roundedUnits_182
            · skip
              refine lv_lload hx hb d_R_roundedUnits_173 (lv_at hl 1 rfl) ?_
              refine lv_lconst (v := lN 1) hx hb d_R_roundedUnits_175 (by decide) ?_
              refine lv_ladd hx hb d_R_roundedUnits_176 ?_
              refine y_eql (lN_add _ _) ?_
              refine lv_goto (tgt := 182) hx hb d_R_roundedUnits_177 (by decide) ?_
              exact yr_l (ws := wR G h dg n p fk fp t np no k c f o bt bk bn) hx hb hrt hlocks (⟨_, rfl, by unfold exR; rw [hf]; have h8 := cpr_rnd te mo hc; first | exact absurd rfl c170 | (rw [show rndU u te mo = u + 1 from if_pos (by first | exact Or.inl c154 | exact Or.inr ⟨by omega, Or.inl c165⟩ | exact Or.inr ⟨by omega, Or.inr c141⟩)] at h8; exact h8) | (rw [show rndU u te mo = u from if_neg (fun z => by rcases z with z | ⟨z1, z2 | z2⟩ <;> first | omega | (rw [c165] at z2; exact absurd z2 (by decide)))] at h8; exact h8), by omega, rfl⟩) rfl hK hP hD hS d_R_roundedUnits_182
  have J106 : ∀ (n9 : Nat) (j : Nat) (u : Nat) (sn : Nat) (te : Nat) (mo : Bool) (ue : Nat) (hm9 : 10 - j < n9) (hj : j ≤ 10) (hsn : sn ≤ 65536) (hte : te ≤ 9) (hu : u ≤ 11000000000) (hc : cpr 1000000000 (ue * 10 ^ j) u) (hjw : j ≤ (wh.toInt - sn).toNat) (hf : exF t wh.toInt (b - a) a 0 0 0 false = (ue, sn, te, mo)) (H : Heap) (locs : List Loc) (ls : Array Slot), va_P (gD G) vwC (wR G h dg n p fk fp t np no k c f o bt bk bn) H → va_D A (wR G h dg n p fk fp t np no k c f o bt bk bn) → va_S A sx.heap H locs → lv_has ls 11 [(0, .ref (h 0)), (1, .int (nI a)), (2, .int (nI b)), (3, .int wh), (4, .long (lN u)), (6, .int (nI sn)), (7, .int (nI te)), (8, .int (bz mo)), (9, .int (nI j))] → W pg l ev (yR 1 21) sx mm ([.ref (h 0), .int (nI a), .int (nI b), .int wh] : List Value).toArray bl mt cd H locs 0 0 (yMQ bl G A (wR G h dg n p fk fp t np no k c f o bt bk bn).length (fun v w => ∃ r, v = some (.long (lN r)) ∧ cpr 1000000000 (exR t a b wh.toInt) r ∧ r < 2 ^ 40 ∧ w = wR G h dg n p fk fp t np no k c f o bt bk bn) (fun _ _ => False) ([.ref (h 0), .int (nI a), .int (nI b), .int wh] : List Value).toArray sx) (F0 mm 106 ls []) := by
    intro n9
    induction n9 with
    | zero => intro j u sn te mo ue hm9; exact absurd hm9 (Nat.not_lt_zero _)
    | succ n9 ih9 =>
      intro j u sn te mo ue hm9 hj hsn hte hu hc hjw hf H locs ls hP hD hS hl
      refine lv_iload hx hb d_R_roundedUnits_106 (lv_at hl 8 rfl) ?_
      refine lv_bipush (v := nI 10) hx hb d_R_roundedUnits_108 (by decide) ?_
      refine yn_icmp_ge (a := j) (b := 10) (tgt := 135) hx hb d_R_roundedUnits_110 (by decide) (by omega) (by omega) (fun c110 => ?_) (fun c110 => ?_)
      · skip
        exact J135 u sn te mo ue (by omega) (by omega) (by first | exact cpr_pow (by rw [show j = 10 by omega] at hc; exact hc) (by omega) | (rw [show (wh.toInt - sn).toNat = j by omega]; exact hc)) (hf) _ _ _ hP hD hS (lv_sub hl [4, 6, 7] rfl)
      · skip
        refine lv_iload hx hb d_R_roundedUnits_113 (lv_at hl 5 rfl) ?_
        refine lv_iload hx hb d_R_roundedUnits_115 (lv_at hl 8 rfl) ?_
        refine lv_iadd hx hb d_R_roundedUnits_117 ?_
        refine y_eqi (nI_add _ _) ?_
        refine lv_iload_n hx hb d_R_roundedUnits_118 rfl (lv_at hl 3 rfl) ?_
        refine lv_icmp_ge (tgt := 135) hx hb d_R_roundedUnits_119 (by decide) (fun c119 => ?_) (fun c119 => ?_)
        · skip
          rw [le_toI (by omega)] at c119
          exact J135 u sn te mo ue (by omega) (by omega) (by first | exact cpr_pow (by rw [show j = 10 by omega] at hc; exact hc) (by omega) | (rw [show (wh.toInt - sn).toNat = j by omega]; exact hc)) (hf) _ _ _ hP hD hS (lv_sub hl [4, 6, 7] rfl)
        · skip
          rw [le_toI (by omega)] at c119
          refine lv_lload hx hb d_R_roundedUnits_122 (lv_at hl 4 rfl) ?_
          refine y_call (y_runS (As := [.long (lN u)]) (rest := []) hx hb hml hown (c_R_tenfold l G  u (by omega)) (gS (n := 1) hg tk_508 tk_509 tk_4 tk_510 (by decide +kernel) ⟨Nat.le_of_ble_eq_true rfl, Nat.le_of_ble_eq_true rfl⟩) (y_pre hE hK hP hD hS hA [] rfl rfl) rfl rfl hl.1 rfl (lv_room (Nat.le_of_ble_eq_true rfl)) d_R_roundedUnits_124 ⟨Nat.le_of_ble_eq_true rfl, Nat.le_of_ble_eq_true rfl⟩) hP hD hS hA [] rfl (fun _ _ _ _ _ _ hp => False.elim hp) (fun v w H locs hp hlw hP hD hS => ?_)
          obtain ⟨rfl, rfl⟩ := hp
          have hP : va_P (gD G) vwC (wR G h dg n p fk fp t np no k c f o bt bk bn) H := hP
          have hD : va_D A (wR G h dg n p fk fp t np no k c f o bt bk bn) := hD
          refine W.eq (g2 := F0 mm 127 ls [.long (lN (tfU 1000000000 u))]) rfl ?_
          refine lv_lstore (lv' := [(4, .long (lN (tfU 1000000000 u))), (0, .ref (h 0)), (1, .int (nI a)), (2, .int (nI b)), (3, .int wh), (6, .int (nI sn)), (7, .int (nI te)), (8, .int (bz mo)), (9, .int (nI j))]) hx hb d_R_roundedUnits_127 hl (by decide) rfl (fun ls hl => ?_)
          refine lv_iinc (v := nI (j + 1)) (lv' := [(9, .int (nI (j + 1))), (4, .long (lN (tfU 1000000000 u))), (0, .ref (h 0)), (1, .int (nI a)), (2, .int (nI b)), (3, .int wh), (6, .int (nI sn)), (7, .int (nI te)), (8, .int (bz mo))]) hx hb d_R_roundedUnits_129 hl (k := 8) rfl (y_inc _) (by decide) rfl (fun ls hl => ?_)
          refine lv_goto (tgt := 106) hx hb d_R_roundedUnits_132 (by decide) ?_
          exact ih9 (j + 1) (tfU 1000000000 u) sn te mo ue (by omega) (by omega) (by omega) (by omega) (by unfold tfU; split <;> omega) (by have := cpr_ten hc; rwa [show 10 * (ue * 10 ^ j) = ue * 10 ^ (j + 1) by rw [Nat.pow_succ, Nat.mul_comm 10, Nat.mul_assoc]] at this) (by omega) (hf) _ _ _ hP hD hS (lv_sub hl [2, 3, 4, 5, 1, 6, 7, 8, 0] rfl)
  have J15 : ∀ (n9 : Nat) (i : Nat) (u : Nat) (sn : Nat) (te : Nat) (mo : Bool) (ue : Nat) (hm9 : b - i < n9) (hi1 : a ≤ i) (hi2 : i ≤ b) (hsn : sn ≤ i - a) (hte : te ≤ 9) (hu : u ≤ 10000000000 + 9 * (i - a)) (hc : cpr 1000000000 ue u) (hf : exF t wh.toInt (b - a) a 0 0 0 false = exF t wh.toInt (b - i) i ue sn te mo) (H : Heap) (locs : List Loc) (ls : Array Slot), va_P (gD G) vwC (wR G h dg n p fk fp t np no k c f o bt bk bn) H → va_D A (wR G h dg n p fk fp t np no k c f o bt bk bn) → va_S A sx.heap H locs → lv_has ls 11 [(0, .ref (h 0)), (1, .int (nI a)), (2, .int (nI b)), (3, .int wh), (4, .long (lN u)), (6, .int (nI sn)), (7, .int (nI te)), (8, .int (bz mo)), (9, .int (nI i))] → W pg l ev (yR 1 21) sx mm ([.ref (h 0), .int (nI a), .int (nI b), .int wh] : List Value).toArray bl mt cd H locs 0 0 (yMQ bl G A (wR G h dg n p fk fp t np no k c f o bt bk bn).length (fun v w => ∃ r, v = some (.long (lN r)) ∧ cpr 1000000000 (exR t a b wh.toInt) r ∧ r < 2 ^ 40 ∧ w = wR G h dg n p fk fp t np no k c f o bt bk bn) (fun _ _ => False) ([.ref (h 0), .int (nI a), .int (nI b), .int wh] : List Value).toArray sx) (F0 mm 15 ls []) := by
    intro n9
    induction n9 with
    | zero => intro i u sn te mo ue hm9; exact absurd hm9 (Nat.not_lt_zero _)
    | succ n9 ih9 =>
      intro i u sn te mo ue hm9 hi1 hi2 hsn hte hu hc hf H locs ls hP hD hS hl
      refine lv_iload hx hb d_R_roundedUnits_15 (lv_at hl 8 rfl) ?_
      refine lv_iload_n hx hb d_R_roundedUnits_17 rfl (lv_at hl 2 rfl) ?_
      refine yn_icmp_ge (a := i) (b := b) (tgt := 103) hx hb d_R_roundedUnits_18 (by decide) (by omega) (by omega) (fun c18 => ?_) (fun c18 => ?_)
      · skip
        refine lv_iconst (v := nI 0) hx hb d_R_roundedUnits_103 (by decide) ?_
        refine lv_istore (lv' := [(9, .int (nI 0)), (0, .ref (h 0)), (1, .int (nI a)), (2, .int (nI b)), (3, .int wh), (4, .long (lN u)), (6, .int (nI sn)), (7, .int (nI te)), (8, .int (bz mo))]) hx hb d_R_roundedUnits_104 hl (by decide) rfl (fun ls hl => ?_)
        exact J106 _ 0 u sn te mo ue (Nat.lt_succ_self _) (by omega) (by omega) (by omega) (by omega) (by rw [Nat.pow_zero, Nat.mul_one]; exact hc) (Nat.zero_le _) (hf.trans (exF_done c18)) _ _ _ hP hD hS (lv_sub hl [1, 2, 3, 4, 5, 6, 7, 8, 0] rfl)
      · skip
        refine lv_aload_n hx hb d_R_roundedUnits_21 rfl (lv_at hl 0 rfl) ?_
        refine va_get (D := gD G) (ci := 1) (v := .ref (h 1)) (C := "WordShapes$Reader") (T := TR) (N := 8) hx hb hg iw_R hown hK hP 0 rfl rfl 0 (by decide) (hg _ tk_86) (fun _ h9 => h9) rfl d_R_roundedUnits_22 ?_
        refine lv_iload hx hb d_R_roundedUnits_25 (lv_at hl 8 rfl) ?_
        refine yn_bald hx hb hK hP 1 1 rfl rfl (j := i) (x := sb_b (t i)) (rfl) (by omega) (by omega) d_R_roundedUnits_27 ?_
        refine y_call (y_runS (As := [.int (sb_b (t i))]) (rest := []) hx hb hml hown (c_R_isDigit l G  (sb_b (t i)) ) (gS (n := 1) hg tk_496 tk_497 tk_4 tk_498 (by decide +kernel) ⟨Nat.le_of_ble_eq_true rfl, Nat.le_of_ble_eq_true rfl⟩) (y_pre hE hK hP hD hS hA [] rfl rfl) rfl rfl hl.1 rfl (lv_room (Nat.le_of_ble_eq_true rfl)) d_R_roundedUnits_28 ⟨Nat.le_of_ble_eq_true rfl, Nat.le_of_ble_eq_true rfl⟩) hP hD hS hA [] rfl (fun _ _ _ _ _ _ hp => False.elim hp) (fun v w H locs hp hlw hP hD hS => ?_)
        obtain ⟨rfl, rfl⟩ := hp
        have hP : va_P (gD G) vwC (wR G h dg n p fk fp t np no k c f o bt bk bn) H := hP
        have hD : va_D A (wR G h dg n p fk fp t np no k c f o bt bk bn) := hD
        refine W.eq (g2 := F0 mm 31 ls [.int (bz (isDi (sb_b (t i))))]) rfl ?_
        refine yy_if_eq (P := isDi (sb_b (t i))) (tgt := 97) hx hb d_R_roundedUnits_31 (by decide) (fun c31 => ?_) (fun c31 => ?_)
        · skip
          rw [(ch_b _ (ht i)).2.2.1] at c31
          refine lv_iinc (v := nI (i + 1)) (lv' := [(9, .int (nI (i + 1))), (0, .ref (h 0)), (1, .int (nI a)), (2, .int (nI b)), (3, .int wh), (4, .long (lN u)), (6, .int (nI sn)), (7, .int (nI te)), (8, .int (bz mo))]) hx hb d_R_roundedUnits_97 hl (k := 8) rfl (y_inc _) (by decide) rfl (fun ls hl => ?_)
          refine lv_goto (tgt := 15) hx hb d_R_roundedUnits_100 (by decide) ?_
          exact ih9 (i + 1) u sn te mo ue (by omega) (by omega) (by omega) (by omega) (by omega) (by omega) (hc) (hf.trans (exF_skip (a := a) c18 c31)) _ _ _ hP hD hS (lv_sub hl [1, 2, 3, 4, 5, 6, 7, 8, 0] rfl)
        · skip
          rw [(ch_b _ (ht i)).2.2.1] at c31
          have h48 := di_lo c31
          refine lv_aload_n hx hb d_R_roundedUnits_34 rfl (lv_at hl 0 rfl) ?_
          refine va_get (D := gD G) (ci := 1) (v := .ref (h 1)) (C := "WordShapes$Reader") (T := TR) (N := 8) hx hb hg iw_R hown hK hP 0 rfl rfl 0 (by decide) (hg _ tk_86) (fun _ h9 => h9) rfl d_R_roundedUnits_35 ?_
          refine lv_iload hx hb d_R_roundedUnits_38 (lv_at hl 8 rfl) ?_
          refine yn_bald hx hb hK hP 1 1 rfl rfl (j := i) (x := sb_b (t i)) (rfl) (by omega) (by omega) d_R_roundedUnits_40 ?_
          refine lv_bipush (v := nI 48) hx hb d_R_roundedUnits_41 (by decide) ?_
          refine lv_isub hx hb d_R_roundedUnits_43 ?_
          refine y_eqi (y := nI (t i - 48)) ((sb_dig _ (ht i) c31).1) ?_
          refine lv_istore (lv' := [(10, .int (nI (t i - 48))), (0, .ref (h 0)), (1, .int (nI a)), (2, .int (nI b)), (3, .int wh), (4, .long (lN u)), (6, .int (nI sn)), (7, .int (nI te)), (8, .int (bz mo)), (9, .int (nI i))]) hx hb d_R_roundedUnits_44 hl (by decide) rfl (fun ls hl => ?_)
          refine lv_iload hx hb d_R_roundedUnits_46 (lv_at hl 6 rfl) ?_
          refine lv_iload_n hx hb d_R_roundedUnits_48 rfl (lv_at hl 4 rfl) ?_
          refine lv_icmp_ge (tgt := 66) hx hb d_R_roundedUnits_49 (by decide) (fun c49 => ?_) (fun c49 => ?_)
          · skip
            rw [le_toI (by omega)] at c49
            refine lv_iload hx hb d_R_roundedUnits_66 (lv_at hl 6 rfl) ?_
            refine lv_iload_n hx hb d_R_roundedUnits_68 rfl (lv_at hl 4 rfl) ?_
            refine lv_icmp_ne (tgt := 79) hx hb d_R_roundedUnits_69 (by decide) (fun c69 => ?_) (fun c69 => ?_)
            · skip
              rw [eq_toI (by omega)] at c69
              refine lv_iload hx hb d_R_roundedUnits_79 (lv_at hl 8 rfl) ?_
              refine lv_iload hx hb d_R_roundedUnits_81 (lv_at hl 0 rfl) ?_
              refine yn_if_eq (a := t i - 48) (tgt := 90) hx hb d_R_roundedUnits_83 (by decide) (by omega) (fun c83 => ?_) (fun c83 => ?_)
              · skip
                refine lv_iconst (v := nI 0) hx hb d_R_roundedUnits_90 (by decide) ?_
                refine lv_ior hx hb d_R_roundedUnits_91 ?_
                refine y_eqi (y := bz (mo || decide (t i ≠ 48))) (by rw [show decide (t i ≠ 48) = false from decide_eq_false (by have := di_lo c31; omega)]; exact bz_or mo false) ?_
                refine lv_istore (lv' := [(8, .int (bz (mo || decide (t i ≠ 48)))), (10, .int (nI (t i - 48))), (0, .ref (h 0)), (1, .int (nI a)), (2, .int (nI b)), (3, .int wh), (4, .long (lN u)), (6, .int (nI sn)), (7, .int (nI te)), (9, .int (nI i))]) hx hb d_R_roundedUnits_92 hl (by decide) rfl (fun ls hl => ?_)
                refine lv_iinc (v := nI (sn + 1)) (lv' := [(6, .int (nI (sn + 1))), (8, .int (bz (mo || decide (t i ≠ 48)))), (10, .int (nI (t i - 48))), (0, .ref (h 0)), (1, .int (nI a)), (2, .int (nI b)), (3, .int wh), (4, .long (lN u)), (7, .int (nI te)), (9, .int (nI i))]) hx hb d_R_roundedUnits_94 hl (k := 7) rfl (y_inc _) (by decide) rfl (fun ls hl => ?_)
                refine lv_iinc (v := nI (i + 1)) (lv' := [(9, .int (nI (i + 1))), (6, .int (nI (sn + 1))), (8, .int (bz (mo || decide (t i ≠ 48)))), (10, .int (nI (t i - 48))), (0, .ref (h 0)), (1, .int (nI a)), (2, .int (nI b)), (3, .int wh), (4, .long (lN u)), (7, .int (nI te))]) hx hb d_R_roundedUnits_97 hl (k := 9) rfl (y_inc _) (by decide) rfl (fun ls hl => ?_)
                refine lv_goto (tgt := 15) hx hb d_R_roundedUnits_100 (by decide) ?_
                exact ih9 (i + 1) u (sn + 1) te (mo || decide (t i ≠ 48)) ue (by omega) (by omega) (by omega) (by omega) (by have := di_lo c31; omega) (by omega) (hc) (hf.trans (exF_gt c18 c31 (by omega))) _ _ _ hP hD hS (lv_sub hl [4, 5, 6, 7, 8, 1, 9, 2, 0] rfl)
              · skip
                refine lv_iconst (v := nI 1) hx hb d_R_roundedUnits_86 (by decide) ?_
                refine lv_goto (tgt := 91) hx hb d_R_roundedUnits_87 (by decide) ?_
                refine lv_ior hx hb d_R_roundedUnits_91 ?_
                refine y_eqi (y := bz (mo || decide (t i ≠ 48))) (by rw [show decide (t i ≠ 48) = true from decide_eq_true (by omega)]; exact bz_or mo true) ?_
                refine lv_istore (lv' := [(8, .int (bz (mo || decide (t i ≠ 48)))), (10, .int (nI (t i - 48))), (0, .ref (h 0)), (1, .int (nI a)), (2, .int (nI b)), (3, .int wh), (4, .long (lN u)), (6, .int (nI sn)), (7, .int (nI te)), (9, .int (nI i))]) hx hb d_R_roundedUnits_92 hl (by decide) rfl (fun ls hl => ?_)
                refine lv_iinc (v := nI (sn + 1)) (lv' := [(6, .int (nI (sn + 1))), (8, .int (bz (mo || decide (t i ≠ 48)))), (10, .int (nI (t i - 48))), (0, .ref (h 0)), (1, .int (nI a)), (2, .int (nI b)), (3, .int wh), (4, .long (lN u)), (7, .int (nI te)), (9, .int (nI i))]) hx hb d_R_roundedUnits_94 hl (k := 7) rfl (y_inc _) (by decide) rfl (fun ls hl => ?_)
                refine lv_iinc (v := nI (i + 1)) (lv' := [(9, .int (nI (i + 1))), (6, .int (nI (sn + 1))), (8, .int (bz (mo || decide (t i ≠ 48)))), (10, .int (nI (t i - 48))), (0, .ref (h 0)), (1, .int (nI a)), (2, .int (nI b)), (3, .int wh), (4, .long (lN u)), (7, .int (nI te))]) hx hb d_R_roundedUnits_97 hl (k := 9) rfl (y_inc _) (by decide) rfl (fun ls hl => ?_)
                refine lv_goto (tgt := 15) hx hb d_R_roundedUnits_100 (by decide) ?_
                exact ih9 (i + 1) u (sn + 1) te (mo || decide (t i ≠ 48)) ue (by omega) (by omega) (by omega) (by omega) (by have := di_lo c31; omega) (by omega) (hc) (hf.trans (exF_gt c18 c31 (by omega))) _ _ _ hP hD hS (lv_sub hl [4, 5, 6, 7, 8, 1, 9, 2, 0] rfl)
            · skip
              rw [eq_toI (by omega)] at c69
              refine lv_iload hx hb d_R_roundedUnits_72 (lv_at hl 0 rfl) ?_
              refine lv_istore (lv' := [(7, .int (nI (t i - 48))), (10, .int (nI (t i - 48))), (0, .ref (h 0)), (1, .int (nI a)), (2, .int (nI b)), (3, .int wh), (4, .long (lN u)), (6, .int (nI sn)), (8, .int (bz mo)), (9, .int (nI i))]) hx hb d_R_roundedUnits_74 hl (by decide) rfl (fun ls hl => ?_)
              refine lv_goto (tgt := 94) hx hb d_R_roundedUnits_76 (by decide) ?_
              refine lv_iinc (v := nI (sn + 1)) (lv' := [(6, .int (nI (sn + 1))), (7, .int (nI (t i - 48))), (10, .int (nI (t i - 48))), (0, .ref (h 0)), (1, .int (nI a)), (2, .int (nI b)), (3, .int wh), (4, .long (lN u)), (8, .int (bz mo)), (9, .int (nI i))]) hx hb d_R_roundedUnits_94 hl (k := 7) rfl (y_inc _) (by decide) rfl (fun ls hl => ?_)
              refine lv_iinc (v := nI (i + 1)) (lv' := [(9, .int (nI (i + 1))), (6, .int (nI (sn + 1))), (7, .int (nI (t i - 48))), (10, .int (nI (t i - 48))), (0, .ref (h 0)), (1, .int (nI a)), (2, .int (nI b)), (3, .int wh), (4, .long (lN u)), (8, .int (bz mo))]) hx hb d_R_roundedUnits_97 hl (k := 9) rfl (y_inc _) (by decide) rfl (fun ls hl => ?_)
              refine lv_goto (tgt := 15) hx hb d_R_roundedUnits_100 (by decide) ?_
              exact ih9 (i + 1) u (sn + 1) (t i - 48) mo ue (by omega) (by omega) (by omega) (by omega) (by have := di_lo c31; omega) (by omega) (hc) (hf.trans (exF_eq c18 c31 c69)) _ _ _ hP hD hS (lv_sub hl [4, 5, 6, 7, 8, 1, 2, 9, 0] rfl)
          · skip
            rw [le_toI (by omega)] at c49
            refine lv_lload hx hb d_R_roundedUnits_52 (lv_at hl 5 rfl) ?_
            refine y_call (y_runS (As := [.long (lN u)]) (rest := []) hx hb hml hown (c_R_tenfold l G  u (by omega)) (gS (n := 1) hg tk_508 tk_509 tk_4 tk_510 (by decide +kernel) ⟨Nat.le_of_ble_eq_true rfl, Nat.le_of_ble_eq_true rfl⟩) (y_pre hE hK hP hD hS hA [] rfl rfl) rfl rfl hl.1 rfl (lv_room (Nat.le_of_ble_eq_true rfl)) d_R_roundedUnits_54 ⟨Nat.le_of_ble_eq_true rfl, Nat.le_of_ble_eq_true rfl⟩) hP hD hS hA [] rfl (fun _ _ _ _ _ _ hp => False.elim hp) (fun v w H locs hp hlw hP hD hS => ?_)
            obtain ⟨rfl, rfl⟩ := hp
            have hP : va_P (gD G) vwC (wR G h dg n p fk fp t np no k c f o bt bk bn) H := hP
            have hD : va_D A (wR G h dg n p fk fp t np no k c f o bt bk bn) := hD
            refine W.eq (g2 := F0 mm 57 ls [.long (lN (tfU 1000000000 u))]) rfl ?_
            refine lv_iload hx hb d_R_roundedUnits_57 (lv_at hl 0 rfl) ?_
            refine lv_i2l hx hb d_R_roundedUnits_59 (v := (nI (t i - 48)).toInt64) rfl ?_
            refine y_eql (y := lN (t i - 48)) (i2lN (by have := ht i; omega)) ?_
            refine lv_ladd hx hb d_R_roundedUnits_60 ?_
            refine y_eql (lN_add _ _) ?_
            refine lv_lstore (lv' := [(4, .long (lN ((tfU 1000000000 u) + (t i - 48)))), (10, .int (nI (t i - 48))), (0, .ref (h 0)), (1, .int (nI a)), (2, .int (nI b)), (3, .int wh), (6, .int (nI sn)), (7, .int (nI te)), (8, .int (bz mo)), (9, .int (nI i))]) hx hb d_R_roundedUnits_61 hl (by decide) rfl (fun ls hl => ?_)
            refine lv_goto (tgt := 94) hx hb d_R_roundedUnits_63 (by decide) ?_
            refine lv_iinc (v := nI (sn + 1)) (lv' := [(6, .int (nI (sn + 1))), (4, .long (lN ((tfU 1000000000 u) + (t i - 48)))), (10, .int (nI (t i - 48))), (0, .ref (h 0)), (1, .int (nI a)), (2, .int (nI b)), (3, .int wh), (7, .int (nI te)), (8, .int (bz mo)), (9, .int (nI i))]) hx hb d_R_roundedUnits_94 hl (k := 6) rfl (y_inc _) (by decide) rfl (fun ls hl => ?_)
            refine lv_iinc (v := nI (i + 1)) (lv' := [(9, .int (nI (i + 1))), (6, .int (nI (sn + 1))), (4, .long (lN ((tfU 1000000000 u) + (t i - 48)))), (10, .int (nI (t i - 48))), (0, .ref (h 0)), (1, .int (nI a)), (2, .int (nI b)), (3, .int wh), (7, .int (nI te)), (8, .int (bz mo))]) hx hb d_R_roundedUnits_97 hl (k := 9) rfl (y_inc _) (by decide) rfl (fun ls hl => ?_)
            refine lv_goto (tgt := 15) hx hb d_R_roundedUnits_100 (by decide) ?_
            exact ih9 (i + 1) ((tfU 1000000000 u) + (t i - 48)) (sn + 1) te mo (10 * ue + (t i - 48)) (by omega) (by omega) (by omega) (by omega) (by have := di_lo c31; omega) (by have := di_lo c31; unfold tfU; split <;> omega) (cpr_step _ hc) (hf.trans (exF_lt c18 c31 (by omega))) _ _ _ hP hD hS (lv_sub hl [4, 5, 6, 7, 2, 1, 8, 9, 0] rfl)
  refine lv_lconst (v := lN 0) hx hb d_R_roundedUnits_0 (by decide) ?_
  refine lv_lstore (lv' := [(4, .long (lN 0)), (0, .ref (h 0)), (1, .int (nI a)), (2, .int (nI b)), (3, .int wh)]) hx hb d_R_roundedUnits_1 hl (by decide) rfl (fun ls hl => ?_)
  refine lv_iconst (v := nI 0) hx hb d_R_roundedUnits_3 (by decide) ?_
  refine lv_istore (lv' := [(6, .int (nI 0)), (4, .long (lN 0)), (0, .ref (h 0)), (1, .int (nI a)), (2, .int (nI b)), (3, .int wh)]) hx hb d_R_roundedUnits_4 hl (by decide) rfl (fun ls hl => ?_)
  refine lv_iconst (v := nI 0) hx hb d_R_roundedUnits_6 (by decide) ?_
  refine lv_istore (lv' := [(7, .int (nI 0)), (6, .int (nI 0)), (4, .long (lN 0)), (0, .ref (h 0)), (1, .int (nI a)), (2, .int (nI b)), (3, .int wh)]) hx hb d_R_roundedUnits_7 hl (by decide) rfl (fun ls hl => ?_)
  refine lv_iconst (v := nI 0) hx hb d_R_roundedUnits_9 (by decide) ?_
  refine lv_istore (lv' := [(8, .int (nI 0)), (7, .int (nI 0)), (6, .int (nI 0)), (4, .long (lN 0)), (0, .ref (h 0)), (1, .int (nI a)), (2, .int (nI b)), (3, .int wh)]) hx hb d_R_roundedUnits_10 hl (by decide) rfl (fun ls hl => ?_)
  refine lv_iload_n hx hb d_R_roundedUnits_12 rfl (lv_at hl 5 rfl) ?_
  refine lv_istore (lv' := [(9, .int (nI a)), (8, .int (nI 0)), (7, .int (nI 0)), (6, .int (nI 0)), (4, .long (lN 0)), (0, .ref (h 0)), (1, .int (nI a)), (2, .int (nI b)), (3, .int wh)]) hx hb d_R_roundedUnits_13 hl (by decide) rfl (fun ls hl => ?_)
  exact J15 _ a 0 0 0 false 0 (Nat.lt_succ_self _) (by omega) (by omega) (by omega) (by omega) (by omega) (⟨fun _ => rfl, fun h => h⟩) (rfl) _ _ _ hP hD hS (lv_sub hl [5, 6, 7, 8, 4, 3, 2, 1, 0] rfl)
end
