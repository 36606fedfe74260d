section
-- ===== PART A: goes FIRST, ahead of the names: the tables' words, and 'selects' of the private methods out of them =====
/-- a private method of a class that the tables say can be made, by its rows of tables_1 -/
def lw_okq (q : MethodName × Nat) : Prop := (q.1.cls ≠ "java/lang/invoke/MethodHandle" ∧ q.1.cls ≠ "java/lang/invoke/VarHandle") ∧ Cond.instantiable q.1.cls q.2 ∈ tables_1 ∧ Cond.privateMethod q.1 ∈ tables_1 ∧ Cond.instanceMethod q.1 ∈ tables_1
theorem lw_p0 : lw_okq (⟨"StandUpBook", "refuseBad", "()I"⟩, 13) := ⟨⟨by decide +kernel, by decide +kernel⟩, List.mem_of_getElem? (i := 22) (by decide +kernel), List.mem_of_getElem? (i := 289) (by decide +kernel), List.mem_of_getElem? (i := 290) (by decide +kernel)⟩
theorem lw_p1 : lw_okq (⟨"StandUpBook", "refuseFull", "()I"⟩, 13) := ⟨⟨by decide +kernel, by decide +kernel⟩, List.mem_of_getElem? (i := 22) (by decide +kernel), List.mem_of_getElem? (i := 309) (by decide +kernel), List.mem_of_getElem? (i := 310) (by decide +kernel)⟩
theorem lw_p2 : lw_okq (⟨"StandUpBook$Text", "step", "()V"⟩, 7) := ⟨⟨by decide +kernel, by decide +kernel⟩, List.mem_of_getElem? (i := 32) (by decide +kernel), List.mem_of_getElem? (i := 359) (by decide +kernel), List.mem_of_getElem? (i := 360) (by decide +kernel)⟩
theorem lw_p3 : lw_okq (⟨"StandUpBook$Text", "isLetter", "(I)Z"⟩, 7) := ⟨⟨by decide +kernel, by decide +kernel⟩, List.mem_of_getElem? (i := 32) (by decide +kernel), List.mem_of_getElem? (i := 363) (by decide +kernel), List.mem_of_getElem? (i := 364) (by decide +kernel)⟩
theorem lw_p4 : lw_okq (⟨"StandUpBook$Text", "isFigure", "(I)Z"⟩, 7) := ⟨⟨by decide +kernel, by decide +kernel⟩, List.mem_of_getElem? (i := 32) (by decide +kernel), List.mem_of_getElem? (i := 367) (by decide +kernel), List.mem_of_getElem? (i := 368) (by decide +kernel)⟩
theorem lw_p5 : lw_okq (⟨"StandUpBook$Text", "stepOverFigures", "()V"⟩, 7) := ⟨⟨by decide +kernel, by decide +kernel⟩, List.mem_of_getElem? (i := 32) (by decide +kernel), List.mem_of_getElem? (i := 371) (by decide +kernel), List.mem_of_getElem? (i := 372) (by decide +kernel)⟩
theorem lw_p6 : lw_okq (⟨"StandUpBook$Text", "tellBook", "(LStandUpBook$Page;)V"⟩, 7) := ⟨⟨by decide +kernel, by decide +kernel⟩, List.mem_of_getElem? (i := 32) (by decide +kernel), List.mem_of_getElem? (i := 375) (by decide +kernel), List.mem_of_getElem? (i := 376) (by decide +kernel)⟩
theorem lw_p7 : lw_okq (⟨"StandUpBook$Text", "isWord", "(Ljava/lang/String;)Z"⟩, 7) := ⟨⟨by decide +kernel, by decide +kernel⟩, List.mem_of_getElem? (i := 32) (by decide +kernel), List.mem_of_getElem? (i := 380) (by decide +kernel), List.mem_of_getElem? (i := 381) (by decide +kernel)⟩
theorem lw_p8 : lw_okq (⟨"StandUpBook$Text", "number", "(II)I"⟩, 7) := ⟨⟨by decide +kernel, by decide +kernel⟩, List.mem_of_getElem? (i := 32) (by decide +kernel), List.mem_of_getElem? (i := 432) (by decide +kernel), List.mem_of_getElem? (i := 433) (by decide +kernel)⟩
theorem lw_p9 : lw_okq (⟨"StandUpBook$Text", "endItem", "()V"⟩, 7) := ⟨⟨by decide +kernel, by decide +kernel⟩, List.mem_of_getElem? (i := 32) (by decide +kernel), List.mem_of_getElem? (i := 436) (by decide +kernel), List.mem_of_getElem? (i := 437) (by decide +kernel)⟩
theorem lw_p10 : lw_okq (⟨"StandUpBook$Text", "tellPiece", "(LStandUpBook$Page;Z)V"⟩, 7) := ⟨⟨by decide +kernel, by decide +kernel⟩, List.mem_of_getElem? (i := 32) (by decide +kernel), List.mem_of_getElem? (i := 443) (by decide +kernel), List.mem_of_getElem? (i := 444) (by decide +kernel)⟩
theorem lw_p11 : lw_okq (⟨"StandUpBook$Text", "tellOpen", "(LStandUpBook$Page;)V"⟩, 7) := ⟨⟨by decide +kernel, by decide +kernel⟩, List.mem_of_getElem? (i := 32) (by decide +kernel), List.mem_of_getElem? (i := 450) (by decide +kernel), List.mem_of_getElem? (i := 451) (by decide +kernel)⟩
theorem lw_p12 : lw_okq (⟨"StandUpBook$Text", "tellPull", "(LStandUpBook$Page;)V"⟩, 7) := ⟨⟨by decide +kernel, by decide +kernel⟩, List.mem_of_getElem? (i := 32) (by decide +kernel), List.mem_of_getElem? (i := 469) (by decide +kernel), List.mem_of_getElem? (i := 470) (by decide +kernel)⟩
theorem lw_p13 : lw_okq (⟨"StandUpBook", "refuseNo", "()I"⟩, 13) := ⟨⟨by decide +kernel, by decide +kernel⟩, List.mem_of_getElem? (i := 22) (by decide +kernel), List.mem_of_getElem? (i := 488) (by decide +kernel), List.mem_of_getElem? (i := 489) (by decide +kernel)⟩
theorem lw_p14 : lw_okq (⟨"StandUpBook$Spread", "dropOldest", "()V"⟩, 7) := ⟨⟨by decide +kernel, by decide +kernel⟩, List.mem_of_getElem? (i := 121) (by decide +kernel), List.mem_of_getElem? (i := 496) (by decide +kernel), List.mem_of_getElem? (i := 497) (by decide +kernel)⟩
theorem lw_p15 : lw_okq (⟨"StandUpBook$Page", "isHidden", "(I)Z"⟩, 6) := ⟨⟨by decide +kernel, by decide +kernel⟩, List.mem_of_getElem? (i := 130) (by decide +kernel), List.mem_of_getElem? (i := 538) (by decide +kernel), List.mem_of_getElem? (i := 539) (by decide +kernel)⟩
def lw_privs_1 : List (MethodName × Nat) := [(⟨"StandUpBook", "refuseBad", "()I"⟩, 13), (⟨"StandUpBook", "refuseFull", "()I"⟩, 13), (⟨"StandUpBook$Text", "step", "()V"⟩, 7), (⟨"StandUpBook$Text", "isLetter", "(I)Z"⟩, 7), (⟨"StandUpBook$Text", "isFigure", "(I)Z"⟩, 7), (⟨"StandUpBook$Text", "stepOverFigures", "()V"⟩, 7), (⟨"StandUpBook$Text", "tellBook", "(LStandUpBook$Page;)V"⟩, 7), (⟨"StandUpBook$Text", "isWord", "(Ljava/lang/String;)Z"⟩, 7), (⟨"StandUpBook$Text", "number", "(II)I"⟩, 7), (⟨"StandUpBook$Text", "endItem", "()V"⟩, 7), (⟨"StandUpBook$Text", "tellPiece", "(LStandUpBook$Page;Z)V"⟩, 7), (⟨"StandUpBook$Text", "tellOpen", "(LStandUpBook$Page;)V"⟩, 7), (⟨"StandUpBook$Text", "tellPull", "(LStandUpBook$Page;)V"⟩, 7), (⟨"StandUpBook", "refuseNo", "()I"⟩, 13), (⟨"StandUpBook$Spread", "dropOldest", "()V"⟩, 7), (⟨"StandUpBook$Page", "isHidden", "(I)Z"⟩, 6)]
theorem lw_r1 : ∀ q ∈ lw_privs_1, lw_okq q := List.forall_mem_cons.mpr ⟨lw_p0, List.forall_mem_cons.mpr ⟨lw_p1, List.forall_mem_cons.mpr ⟨lw_p2, List.forall_mem_cons.mpr ⟨lw_p3, List.forall_mem_cons.mpr ⟨lw_p4, List.forall_mem_cons.mpr ⟨lw_p5, List.forall_mem_cons.mpr ⟨lw_p6, List.forall_mem_cons.mpr ⟨lw_p7, List.forall_mem_cons.mpr ⟨lw_p8, List.forall_mem_cons.mpr ⟨lw_p9, List.forall_mem_cons.mpr ⟨lw_p10, List.forall_mem_cons.mpr ⟨lw_p11, List.forall_mem_cons.mpr ⟨lw_p12, List.forall_mem_cons.mpr ⟨lw_p13, List.forall_mem_cons.mpr ⟨lw_p14, List.forall_mem_cons.mpr ⟨lw_p15, fun _ h => absurd h List.not_mem_nil⟩⟩⟩⟩⟩⟩⟩⟩⟩⟩⟩⟩⟩⟩⟩⟩
theorem lw_p16 : lw_okq (⟨"StandUpBook", "isNoPiece", "(I)Z"⟩, 13) := ⟨⟨by decide +kernel, by decide +kernel⟩, List.mem_of_getElem? (i := 22) (by decide +kernel), List.mem_of_getElem? (i := 546) (by decide +kernel), List.mem_of_getElem? (i := 547) (by decide +kernel)⟩
theorem lw_p17 : lw_okq (⟨"StandUpBook", "openingsThatShow", "(I)I"⟩, 13) := ⟨⟨by decide +kernel, by decide +kernel⟩, List.mem_of_getElem? (i := 22) (by decide +kernel), List.mem_of_getElem? (i := 624) (by decide +kernel), List.mem_of_getElem? (i := 625) (by decide +kernel)⟩
theorem lw_p18 : lw_okq (⟨"StandUpBook$Page", "reachesInAll", "(I)I"⟩, 6) := ⟨⟨by decide +kernel, by decide +kernel⟩, List.mem_of_getElem? (i := 130) (by decide +kernel), List.mem_of_getElem? (i := 646) (by decide +kernel), List.mem_of_getElem? (i := 647) (by decide +kernel)⟩
theorem lw_p19 : lw_okq (⟨"StandUpBook", "areNoPieces", "(I)Z"⟩, 13) := ⟨⟨by decide +kernel, by decide +kernel⟩, List.mem_of_getElem? (i := 22) (by decide +kernel), List.mem_of_getElem? (i := 662) (by decide +kernel), List.mem_of_getElem? (i := 663) (by decide +kernel)⟩
theorem lw_p20 : lw_okq (⟨"StandUpBook", "refuseBadElsewhere", "()I"⟩, 13) := ⟨⟨by decide +kernel, by decide +kernel⟩, List.mem_of_getElem? (i := 22) (by decide +kernel), List.mem_of_getElem? (i := 666) (by decide +kernel), List.mem_of_getElem? (i := 667) (by decide +kernel)⟩
theorem lw_p21 : lw_okq (⟨"StandUpBook", "kindsThatFit", "(I)I"⟩, 13) := ⟨⟨by decide +kernel, by decide +kernel⟩, List.mem_of_getElem? (i := 22) (by decide +kernel), List.mem_of_getElem? (i := 723) (by decide +kernel), List.mem_of_getElem? (i := 724) (by decide +kernel)⟩
theorem lw_p22 : lw_okq (⟨"StandUpBook", "fitsNotes", "(II)Z"⟩, 13) := ⟨⟨by decide +kernel, by decide +kernel⟩, List.mem_of_getElem? (i := 22) (by decide +kernel), List.mem_of_getElem? (i := 727) (by decide +kernel), List.mem_of_getElem? (i := 728) (by decide +kernel)⟩
theorem lw_p23 : lw_okq (⟨"StandUpBook", "mostAlike", "(IIII)I"⟩, 13) := ⟨⟨by decide +kernel, by decide +kernel⟩, List.mem_of_getElem? (i := 22) (by decide +kernel), List.mem_of_getElem? (i := 736) (by decide +kernel), List.mem_of_getElem? (i := 737) (by decide +kernel)⟩
theorem lw_p24 : lw_okq (⟨"StandUpBook", "manyThatRise", "(IIIII)I"⟩, 13) := ⟨⟨by decide +kernel, by decide +kernel⟩, List.mem_of_getElem? (i := 22) (by decide +kernel), List.mem_of_getElem? (i := 740) (by decide +kernel), List.mem_of_getElem? (i := 741) (by decide +kernel)⟩
theorem lw_p25 : lw_okq (⟨"StandUpBook", "trialStandsSo", "()Z"⟩, 13) := ⟨⟨by decide +kernel, by decide +kernel⟩, List.mem_of_getElem? (i := 22) (by decide +kernel), List.mem_of_getElem? (i := 748) (by decide +kernel), List.mem_of_getElem? (i := 749) (by decide +kernel)⟩
theorem lw_p26 : lw_okq (⟨"StandUpBook", "rests", "(II)Z"⟩, 13) := ⟨⟨by decide +kernel, by decide +kernel⟩, List.mem_of_getElem? (i := 22) (by decide +kernel), List.mem_of_getElem? (i := 760) (by decide +kernel), List.mem_of_getElem? (i := 761) (by decide +kernel)⟩
theorem lw_p27 : lw_okq (⟨"StandUpBook", "firstGets", "(II)I"⟩, 13) := ⟨⟨by decide +kernel, by decide +kernel⟩, List.mem_of_getElem? (i := 22) (by decide +kernel), List.mem_of_getElem? (i := 764) (by decide +kernel), List.mem_of_getElem? (i := 765) (by decide +kernel)⟩
theorem lw_p28 : lw_okq (⟨"StandUpBook", "secondGets", "(II)I"⟩, 13) := ⟨⟨by decide +kernel, by decide +kernel⟩, List.mem_of_getElem? (i := 22) (by decide +kernel), List.mem_of_getElem? (i := 768) (by decide +kernel), List.mem_of_getElem? (i := 769) (by decide +kernel)⟩
theorem lw_p29 : lw_okq (⟨"StandUpBook", "keepFraction", "(JJ)V"⟩, 13) := ⟨⟨by decide +kernel, by decide +kernel⟩, List.mem_of_getElem? (i := 22) (by decide +kernel), List.mem_of_getElem? (i := 784) (by decide +kernel), List.mem_of_getElem? (i := 785) (by decide +kernel)⟩
theorem lw_p30 : lw_okq (⟨"StandUpBookModel", "begin", "(I)V"⟩, 40) := ⟨⟨by decide +kernel, by decide +kernel⟩, List.mem_of_getElem? (i := 854) (by decide +kernel), List.mem_of_getElem? (i := 860) (by decide +kernel), List.mem_of_getElem? (i := 861) (by decide +kernel)⟩
theorem lw_p31 : lw_okq (⟨"StandUpBookModel", "bad", "()I"⟩, 40) := ⟨⟨by decide +kernel, by decide +kernel⟩, List.mem_of_getElem? (i := 854) (by decide +kernel), List.mem_of_getElem? (i := 992) (by decide +kernel), List.mem_of_getElem? (i := 993) (by decide +kernel)⟩
def lw_privs_2 : List (MethodName × Nat) := [(⟨"StandUpBook", "isNoPiece", "(I)Z"⟩, 13), (⟨"StandUpBook", "openingsThatShow", "(I)I"⟩, 13), (⟨"StandUpBook$Page", "reachesInAll", "(I)I"⟩, 6), (⟨"StandUpBook", "areNoPieces", "(I)Z"⟩, 13), (⟨"StandUpBook", "refuseBadElsewhere", "()I"⟩, 13), (⟨"StandUpBook", "kindsThatFit", "(I)I"⟩, 13), (⟨"StandUpBook", "fitsNotes", "(II)Z"⟩, 13), (⟨"StandUpBook", "mostAlike", "(IIII)I"⟩, 13), (⟨"StandUpBook", "manyThatRise", "(IIIII)I"⟩, 13), (⟨"StandUpBook", "trialStandsSo", "()Z"⟩, 13), (⟨"StandUpBook", "rests", "(II)Z"⟩, 13), (⟨"StandUpBook", "firstGets", "(II)I"⟩, 13), (⟨"StandUpBook", "secondGets", "(II)I"⟩, 13), (⟨"StandUpBook", "keepFraction", "(JJ)V"⟩, 13), (⟨"StandUpBookModel", "begin", "(I)V"⟩, 40), (⟨"StandUpBookModel", "bad", "()I"⟩, 40)]
theorem lw_r2 : ∀ q ∈ lw_privs_2, lw_okq q := List.forall_mem_cons.mpr ⟨lw_p16, List.forall_mem_cons.mpr ⟨lw_p17, List.forall_mem_cons.mpr ⟨lw_p18, List.forall_mem_cons.mpr ⟨lw_p19, List.forall_mem_cons.mpr ⟨lw_p20, List.forall_mem_cons.mpr ⟨lw_p21, List.forall_mem_cons.mpr ⟨lw_p22, List.forall_mem_cons.mpr ⟨lw_p23, List.forall_mem_cons.mpr ⟨lw_p24, List.forall_mem_cons.mpr ⟨lw_p25, List.forall_mem_cons.mpr ⟨lw_p26, List.forall_mem_cons.mpr ⟨lw_p27, List.forall_mem_cons.mpr ⟨lw_p28, List.forall_mem_cons.mpr ⟨lw_p29, List.forall_mem_cons.mpr ⟨lw_p30, List.forall_mem_cons.mpr ⟨lw_p31, fun _ h => absurd h List.not_mem_nil⟩⟩⟩⟩⟩⟩⟩⟩⟩⟩⟩⟩⟩⟩⟩⟩
theorem lw_p32 : lw_okq (⟨"StandUpBookModel", "full", "()I"⟩, 40) := ⟨⟨by decide +kernel, by decide +kernel⟩, List.mem_of_getElem? (i := 854) (by decide +kernel), List.mem_of_getElem? (i := 1000) (by decide +kernel), List.mem_of_getElem? (i := 1001) (by decide +kernel)⟩
theorem lw_p33 : lw_okq (⟨"StandUpBookModel", "addPiece", "(IIIII)I"⟩, 40) := ⟨⟨by decide +kernel, by decide +kernel⟩, List.mem_of_getElem? (i := 854) (by decide +kernel), List.mem_of_getElem? (i := 1004) (by decide +kernel), List.mem_of_getElem? (i := 1005) (by decide +kernel)⟩
theorem lw_p34 : lw_okq (⟨"StandUpBookModel", "layAll", "([II)V"⟩, 40) := ⟨⟨by decide +kernel, by decide +kernel⟩, List.mem_of_getElem? (i := 854) (by decide +kernel), List.mem_of_getElem? (i := 1020) (by decide +kernel), List.mem_of_getElem? (i := 1021) (by decide +kernel)⟩
theorem lw_p35 : lw_okq (⟨"StandUpBookModel", "lays", "([II)V"⟩, 40) := ⟨⟨by decide +kernel, by decide +kernel⟩, List.mem_of_getElem? (i := 854) (by decide +kernel), List.mem_of_getElem? (i := 1024) (by decide +kernel), List.mem_of_getElem? (i := 1025) (by decide +kernel)⟩
theorem lw_p36 : lw_okq (⟨"StandUpBookModel", "readsBook", "()I"⟩, 40) := ⟨⟨by decide +kernel, by decide +kernel⟩, List.mem_of_getElem? (i := 854) (by decide +kernel), List.mem_of_getElem? (i := 1028) (by decide +kernel), List.mem_of_getElem? (i := 1029) (by decide +kernel)⟩
theorem lw_p37 : lw_okq (⟨"StandUpBookModel", "readsFirst", "()Z"⟩, 40) := ⟨⟨by decide +kernel, by decide +kernel⟩, List.mem_of_getElem? (i := 854) (by decide +kernel), List.mem_of_getElem? (i := 1032) (by decide +kernel), List.mem_of_getElem? (i := 1033) (by decide +kernel)⟩
theorem lw_p38 : lw_okq (⟨"StandUpBookModel", "skip", "()V"⟩, 40) := ⟨⟨by decide +kernel, by decide +kernel⟩, List.mem_of_getElem? (i := 854) (by decide +kernel), List.mem_of_getElem? (i := 1036) (by decide +kernel), List.mem_of_getElem? (i := 1037) (by decide +kernel)⟩
theorem lw_p39 : lw_okq (⟨"StandUpBookModel", "here", "()I"⟩, 40) := ⟨⟨by decide +kernel, by decide +kernel⟩, List.mem_of_getElem? (i := 854) (by decide +kernel), List.mem_of_getElem? (i := 1040) (by decide +kernel), List.mem_of_getElem? (i := 1041) (by decide +kernel)⟩
theorem lw_p40 : lw_okq (⟨"StandUpBookModel", "wordHere", "()I"⟩, 40) := ⟨⟨by decide +kernel, by decide +kernel⟩, List.mem_of_getElem? (i := 854) (by decide +kernel), List.mem_of_getElem? (i := 1044) (by decide +kernel), List.mem_of_getElem? (i := 1045) (by decide +kernel)⟩
theorem lw_p41 : lw_okq (⟨"StandUpBookModel", "wordSize", "()I"⟩, 40) := ⟨⟨by decide +kernel, by decide +kernel⟩, List.mem_of_getElem? (i := 854) (by decide +kernel), List.mem_of_getElem? (i := 1048) (by decide +kernel), List.mem_of_getElem? (i := 1049) (by decide +kernel)⟩
theorem lw_p42 : lw_okq (⟨"StandUpBookModel", "letter", "(I)I"⟩, 40) := ⟨⟨by decide +kernel, by decide +kernel⟩, List.mem_of_getElem? (i := 854) (by decide +kernel), List.mem_of_getElem? (i := 1055) (by decide +kernel), List.mem_of_getElem? (i := 1056) (by decide +kernel)⟩
theorem lw_p43 : lw_okq (⟨"StandUpBookModel", "number", "(II)Z"⟩, 40) := ⟨⟨by decide +kernel, by decide +kernel⟩, List.mem_of_getElem? (i := 854) (by decide +kernel), List.mem_of_getElem? (i := 1059) (by decide +kernel), List.mem_of_getElem? (i := 1060) (by decide +kernel)⟩
theorem lw_p44 : lw_okq (⟨"StandUpBookModel", "ends", "()Z"⟩, 40) := ⟨⟨by decide +kernel, by decide +kernel⟩, List.mem_of_getElem? (i := 854) (by decide +kernel), List.mem_of_getElem? (i := 1066) (by decide +kernel), List.mem_of_getElem? (i := 1067) (by decide +kernel)⟩
theorem lw_p45 : lw_okq (⟨"StandUpBookModel", "readsItem", "()Z"⟩, 40) := ⟨⟨by decide +kernel, by decide +kernel⟩, List.mem_of_getElem? (i := 854) (by decide +kernel), List.mem_of_getElem? (i := 1070) (by decide +kernel), List.mem_of_getElem? (i := 1071) (by decide +kernel)⟩
theorem lw_p46 : lw_okq (⟨"StandUpBookModel", "readsOpen", "()Z"⟩, 40) := ⟨⟨by decide +kernel, by decide +kernel⟩, List.mem_of_getElem? (i := 854) (by decide +kernel), List.mem_of_getElem? (i := 1074) (by decide +kernel), List.mem_of_getElem? (i := 1075) (by decide +kernel)⟩
theorem lw_p47 : lw_okq (⟨"StandUpBookModel", "goesTo", "(I)V"⟩, 40) := ⟨⟨by decide +kernel, by decide +kernel⟩, List.mem_of_getElem? (i := 854) (by decide +kernel), List.mem_of_getElem? (i := 1078) (by decide +kernel), List.mem_of_getElem? (i := 1079) (by decide +kernel)⟩
def lw_privs_3 : List (MethodName × Nat) := [(⟨"StandUpBookModel", "full", "()I"⟩, 40), (⟨"StandUpBookModel", "addPiece", "(IIIII)I"⟩, 40), (⟨"StandUpBookModel", "layAll", "([II)V"⟩, 40), (⟨"StandUpBookModel", "lays", "([II)V"⟩, 40), (⟨"StandUpBookModel", "readsBook", "()I"⟩, 40), (⟨"StandUpBookModel", "readsFirst", "()Z"⟩, 40), (⟨"StandUpBookModel", "skip", "()V"⟩, 40), (⟨"StandUpBookModel", "here", "()I"⟩, 40), (⟨"StandUpBookModel", "wordHere", "()I"⟩, 40), (⟨"StandUpBookModel", "wordSize", "()I"⟩, 40), (⟨"StandUpBookModel", "letter", "(I)I"⟩, 40), (⟨"StandUpBookModel", "number", "(II)Z"⟩, 40), (⟨"StandUpBookModel", "ends", "()Z"⟩, 40), (⟨"StandUpBookModel", "readsItem", "()Z"⟩, 40), (⟨"StandUpBookModel", "readsOpen", "()Z"⟩, 40), (⟨"StandUpBookModel", "goesTo", "(I)V"⟩, 40)]
theorem lw_r3 : ∀ q ∈ lw_privs_3, lw_okq q := List.forall_mem_cons.mpr ⟨lw_p32, List.forall_mem_cons.mpr ⟨lw_p33, List.forall_mem_cons.mpr ⟨lw_p34, List.forall_mem_cons.mpr ⟨lw_p35, List.forall_mem_cons.mpr ⟨lw_p36, List.forall_mem_cons.mpr ⟨lw_p37, List.forall_mem_cons.mpr ⟨lw_p38, List.forall_mem_cons.mpr ⟨lw_p39, List.forall_mem_cons.mpr ⟨lw_p40, List.forall_mem_cons.mpr ⟨lw_p41, List.forall_mem_cons.mpr ⟨lw_p42, List.forall_mem_cons.mpr ⟨lw_p43, List.forall_mem_cons.mpr ⟨lw_p44, List.forall_mem_cons.mpr ⟨lw_p45, List.forall_mem_cons.mpr ⟨lw_p46, List.forall_mem_cons.mpr ⟨lw_p47, fun _ h => absurd h List.not_mem_nil⟩⟩⟩⟩⟩⟩⟩⟩⟩⟩⟩⟩⟩⟩⟩⟩
theorem lw_p48 : lw_okq (⟨"StandUpBookModel", "isStuck", "(I)Z"⟩, 40) := ⟨⟨by decide +kernel, by decide +kernel⟩, List.mem_of_getElem? (i := 854) (by decide +kernel), List.mem_of_getElem? (i := 1082) (by decide +kernel), List.mem_of_getElem? (i := 1083) (by decide +kernel)⟩
theorem lw_p49 : lw_okq (⟨"StandUpBookModel", "readsPull", "()Z"⟩, 40) := ⟨⟨by decide +kernel, by decide +kernel⟩, List.mem_of_getElem? (i := 854) (by decide +kernel), List.mem_of_getElem? (i := 1092) (by decide +kernel), List.mem_of_getElem? (i := 1093) (by decide +kernel)⟩
theorem lw_p50 : lw_okq (⟨"StandUpBookModel", "readsPiece", "(Z)Z"⟩, 40) := ⟨⟨by decide +kernel, by decide +kernel⟩, List.mem_of_getElem? (i := 854) (by decide +kernel), List.mem_of_getElem? (i := 1096) (by decide +kernel), List.mem_of_getElem? (i := 1097) (by decide +kernel)⟩
theorem lw_p51 : lw_okq (⟨"StandUpBookModel", "takeAll", "([II)V"⟩, 40) := ⟨⟨by decide +kernel, by decide +kernel⟩, List.mem_of_getElem? (i := 854) (by decide +kernel), List.mem_of_getElem? (i := 1100) (by decide +kernel), List.mem_of_getElem? (i := 1101) (by decide +kernel)⟩
theorem lw_p52 : lw_okq (⟨"StandUpBookModel", "takes", "([II)V"⟩, 40) := ⟨⟨by decide +kernel, by decide +kernel⟩, List.mem_of_getElem? (i := 854) (by decide +kernel), List.mem_of_getElem? (i := 1104) (by decide +kernel), List.mem_of_getElem? (i := 1105) (by decide +kernel)⟩
theorem lw_p53 : lw_okq (⟨"StandUpBookModel", "no", "()I"⟩, 40) := ⟨⟨by decide +kernel, by decide +kernel⟩, List.mem_of_getElem? (i := 854) (by decide +kernel), List.mem_of_getElem? (i := 1115) (by decide +kernel), List.mem_of_getElem? (i := 1116) (by decide +kernel)⟩
theorem lw_p54 : lw_okq (⟨"StandUpBookModel", "notes", "()V"⟩, 40) := ⟨⟨by decide +kernel, by decide +kernel⟩, List.mem_of_getElem? (i := 854) (by decide +kernel), List.mem_of_getElem? (i := 1119) (by decide +kernel), List.mem_of_getElem? (i := 1120) (by decide +kernel)⟩
theorem lw_p55 : lw_okq (⟨"StandUpBookModel", "seenAt", "(I)I"⟩, 40) := ⟨⟨by decide +kernel, by decide +kernel⟩, List.mem_of_getElem? (i := 854) (by decide +kernel), List.mem_of_getElem? (i := 1123) (by decide +kernel), List.mem_of_getElem? (i := 1124) (by decide +kernel)⟩
theorem lw_p56 : lw_okq (⟨"StandUpBookModel", "heightOf", "(II)I"⟩, 40) := ⟨⟨by decide +kernel, by decide +kernel⟩, List.mem_of_getElem? (i := 854) (by decide +kernel), List.mem_of_getElem? (i := 1127) (by decide +kernel), List.mem_of_getElem? (i := 1128) (by decide +kernel)⟩
theorem lw_p57 : lw_okq (⟨"StandUpBookModel", "riseOf", "(II)I"⟩, 40) := ⟨⟨by decide +kernel, by decide +kernel⟩, List.mem_of_getElem? (i := 854) (by decide +kernel), List.mem_of_getElem? (i := 1131) (by decide +kernel), List.mem_of_getElem? (i := 1132) (by decide +kernel)⟩
theorem lw_p58 : lw_okq (⟨"StandUpBookModel", "isPiece", "(I)Z"⟩, 40) := ⟨⟨by decide +kernel, by decide +kernel⟩, List.mem_of_getElem? (i := 854) (by decide +kernel), List.mem_of_getElem? (i := 1145) (by decide +kernel), List.mem_of_getElem? (i := 1146) (by decide +kernel)⟩
theorem lw_p59 : lw_okq (⟨"StandUpBookModel", "reach", "(I)I"⟩, 40) := ⟨⟨by decide +kernel, by decide +kernel⟩, List.mem_of_getElem? (i := 854) (by decide +kernel), List.mem_of_getElem? (i := 1165) (by decide +kernel), List.mem_of_getElem? (i := 1166) (by decide +kernel)⟩
theorem lw_p60 : lw_okq (⟨"StandUpBookModel", "reachAll", "(I)I"⟩, 40) := ⟨⟨by decide +kernel, by decide +kernel⟩, List.mem_of_getElem? (i := 854) (by decide +kernel), List.mem_of_getElem? (i := 1195) (by decide +kernel), List.mem_of_getElem? (i := 1196) (by decide +kernel)⟩
theorem lw_p61 : lw_okq (⟨"StandUpBookModel", "isSet", "(I)Z"⟩, 40) := ⟨⟨by decide +kernel, by decide +kernel⟩, List.mem_of_getElem? (i := 854) (by decide +kernel), List.mem_of_getElem? (i := 1203) (by decide +kernel), List.mem_of_getElem? (i := 1204) (by decide +kernel)⟩
theorem lw_p62 : lw_okq (⟨"StandUpBookModel", "ten", "()I"⟩, 40) := ⟨⟨by decide +kernel, by decide +kernel⟩, List.mem_of_getElem? (i := 854) (by decide +kernel), List.mem_of_getElem? (i := 1207) (by decide +kernel), List.mem_of_getElem? (i := 1208) (by decide +kernel)⟩
theorem lw_p63 : lw_okq (⟨"StandUpBookModel", "setSeen", "()V"⟩, 40) := ⟨⟨by decide +kernel, by decide +kernel⟩, List.mem_of_getElem? (i := 854) (by decide +kernel), List.mem_of_getElem? (i := 1211) (by decide +kernel), List.mem_of_getElem? (i := 1212) (by decide +kernel)⟩
def lw_privs_4 : List (MethodName × Nat) := [(⟨"StandUpBookModel", "isStuck", "(I)Z"⟩, 40), (⟨"StandUpBookModel", "readsPull", "()Z"⟩, 40), (⟨"StandUpBookModel", "readsPiece", "(Z)Z"⟩, 40), (⟨"StandUpBookModel", "takeAll", "([II)V"⟩, 40), (⟨"StandUpBookModel", "takes", "([II)V"⟩, 40), (⟨"StandUpBookModel", "no", "()I"⟩, 40), (⟨"StandUpBookModel", "notes", "()V"⟩, 40), (⟨"StandUpBookModel", "seenAt", "(I)I"⟩, 40), (⟨"StandUpBookModel", "heightOf", "(II)I"⟩, 40), (⟨"StandUpBookModel", "riseOf", "(II)I"⟩, 40), (⟨"StandUpBookModel", "isPiece", "(I)Z"⟩, 40), (⟨"StandUpBookModel", "reach", "(I)I"⟩, 40), (⟨"StandUpBookModel", "reachAll", "(I)I"⟩, 40), (⟨"StandUpBookModel", "isSet", "(I)Z"⟩, 40), (⟨"StandUpBookModel", "ten", "()I"⟩, 40), (⟨"StandUpBookModel", "setSeen", "()V"⟩, 40)]
theorem lw_r4 : ∀ q ∈ lw_privs_4, lw_okq q := List.forall_mem_cons.mpr ⟨lw_p48, List.forall_mem_cons.mpr ⟨lw_p49, List.forall_mem_cons.mpr ⟨lw_p50, List.forall_mem_cons.mpr ⟨lw_p51, List.forall_mem_cons.mpr ⟨lw_p52, List.forall_mem_cons.mpr ⟨lw_p53, List.forall_mem_cons.mpr ⟨lw_p54, List.forall_mem_cons.mpr ⟨lw_p55, List.forall_mem_cons.mpr ⟨lw_p56, List.forall_mem_cons.mpr ⟨lw_p57, List.forall_mem_cons.mpr ⟨lw_p58, List.forall_mem_cons.mpr ⟨lw_p59, List.forall_mem_cons.mpr ⟨lw_p60, List.forall_mem_cons.mpr ⟨lw_p61, List.forall_mem_cons.mpr ⟨lw_p62, List.forall_mem_cons.mpr ⟨lw_p63, fun _ h => absurd h List.not_mem_nil⟩⟩⟩⟩⟩⟩⟩⟩⟩⟩⟩⟩⟩⟩⟩⟩
theorem lw_p64 : lw_okq (⟨"StandUpBookModel", "isToured", "(III)Z"⟩, 40) := ⟨⟨by decide +kernel, by decide +kernel⟩, List.mem_of_getElem? (i := 854) (by decide +kernel), List.mem_of_getElem? (i := 1216) (by decide +kernel), List.mem_of_getElem? (i := 1217) (by decide +kernel)⟩
theorem lw_p65 : lw_okq (⟨"StandUpBookModel", "setWalk", "(II)V"⟩, 40) := ⟨⟨by decide +kernel, by decide +kernel⟩, List.mem_of_getElem? (i := 854) (by decide +kernel), List.mem_of_getElem? (i := 1220) (by decide +kernel), List.mem_of_getElem? (i := 1221) (by decide +kernel)⟩
theorem lw_p66 : lw_okq (⟨"StandUpBookModel", "walkTo", "(I)V"⟩, 40) := ⟨⟨by decide +kernel, by decide +kernel⟩, List.mem_of_getElem? (i := 854) (by decide +kernel), List.mem_of_getElem? (i := 1224) (by decide +kernel), List.mem_of_getElem? (i := 1225) (by decide +kernel)⟩
theorem lw_p67 : lw_okq (⟨"StandUpBookModel", "isSooner", "(I)Z"⟩, 40) := ⟨⟨by decide +kernel, by decide +kernel⟩, List.mem_of_getElem? (i := 854) (by decide +kernel), List.mem_of_getElem? (i := 1228) (by decide +kernel), List.mem_of_getElem? (i := 1229) (by decide +kernel)⟩
theorem lw_p68 : lw_okq (⟨"StandUpBookModel", "isWornBy", "(I)Z"⟩, 40) := ⟨⟨by decide +kernel, by decide +kernel⟩, List.mem_of_getElem? (i := 854) (by decide +kernel), List.mem_of_getElem? (i := 1240) (by decide +kernel), List.mem_of_getElem? (i := 1241) (by decide +kernel)⟩
theorem lw_p69 : lw_okq (⟨"StandUpBookModel", "goesFrom", "(III)I"⟩, 40) := ⟨⟨by decide +kernel, by decide +kernel⟩, List.mem_of_getElem? (i := 854) (by decide +kernel), List.mem_of_getElem? (i := 1248) (by decide +kernel), List.mem_of_getElem? (i := 1249) (by decide +kernel)⟩
theorem lw_p70 : lw_okq (⟨"StandUpBookModel", "kindsOf", "(I)I"⟩, 40) := ⟨⟨by decide +kernel, by decide +kernel⟩, List.mem_of_getElem? (i := 854) (by decide +kernel), List.mem_of_getElem? (i := 1268) (by decide +kernel), List.mem_of_getElem? (i := 1269) (by decide +kernel)⟩
theorem lw_p71 : lw_okq (⟨"StandUpBookModel", "isStood", "()Z"⟩, 40) := ⟨⟨by decide +kernel, by decide +kernel⟩, List.mem_of_getElem? (i := 854) (by decide +kernel), List.mem_of_getElem? (i := 1283) (by decide +kernel), List.mem_of_getElem? (i := 1284) (by decide +kernel)⟩
theorem lw_p72 : lw_okq (⟨"StandUpBookModel", "rests", "(II)Z"⟩, 40) := ⟨⟨by decide +kernel, by decide +kernel⟩, List.mem_of_getElem? (i := 854) (by decide +kernel), List.mem_of_getElem? (i := 1291) (by decide +kernel), List.mem_of_getElem? (i := 1292) (by decide +kernel)⟩
theorem lw_p73 : lw_okq (⟨"StandUpBookModel", "firstGets", "(II)I"⟩, 40) := ⟨⟨by decide +kernel, by decide +kernel⟩, List.mem_of_getElem? (i := 854) (by decide +kernel), List.mem_of_getElem? (i := 1295) (by decide +kernel), List.mem_of_getElem? (i := 1296) (by decide +kernel)⟩
theorem lw_p74 : lw_okq (⟨"StandUpBookModel", "secondGets", "(II)I"⟩, 40) := ⟨⟨by decide +kernel, by decide +kernel⟩, List.mem_of_getElem? (i := 854) (by decide +kernel), List.mem_of_getElem? (i := 1299) (by decide +kernel), List.mem_of_getElem? (i := 1300) (by decide +kernel)⟩
theorem lw_p75 : lw_okq (⟨"StandUpBookModel", "lay", "(JJ)V"⟩, 40) := ⟨⟨by decide +kernel, by decide +kernel⟩, List.mem_of_getElem? (i := 854) (by decide +kernel), List.mem_of_getElem? (i := 1308) (by decide +kernel), List.mem_of_getElem? (i := 1309) (by decide +kernel)⟩
theorem lw_p76 : lw_okq (⟨"StandUpBookModel", "countOf", "(I)I"⟩, 40) := ⟨⟨by decide +kernel, by decide +kernel⟩, List.mem_of_getElem? (i := 854) (by decide +kernel), List.mem_of_getElem? (i := 1342) (by decide +kernel), List.mem_of_getElem? (i := 1343) (by decide +kernel)⟩
theorem lw_p77 : lw_okq (⟨"StandUpBookModel", "stuckMany", "()I"⟩, 40) := ⟨⟨by decide +kernel, by decide +kernel⟩, List.mem_of_getElem? (i := 854) (by decide +kernel), List.mem_of_getElem? (i := 1346) (by decide +kernel), List.mem_of_getElem? (i := 1347) (by decide +kernel)⟩
theorem lw_p78 : lw_okq (⟨"StandUpBookModel", "wearAll", "()I"⟩, 40) := ⟨⟨by decide +kernel, by decide +kernel⟩, List.mem_of_getElem? (i := 854) (by decide +kernel), List.mem_of_getElem? (i := 1350) (by decide +kernel), List.mem_of_getElem? (i := 1351) (by decide +kernel)⟩
theorem lw_p79 : lw_okq (⟨"StandUpBookModel", "mix", "(J)V"⟩, 40) := ⟨⟨by decide +kernel, by decide +kernel⟩, List.mem_of_getElem? (i := 854) (by decide +kernel), List.mem_of_getElem? (i := 1359) (by decide +kernel), List.mem_of_getElem? (i := 1360) (by decide +kernel)⟩
def lw_privs_5 : List (MethodName × Nat) := [(⟨"StandUpBookModel", "isToured", "(III)Z"⟩, 40), (⟨"StandUpBookModel", "setWalk", "(II)V"⟩, 40), (⟨"StandUpBookModel", "walkTo", "(I)V"⟩, 40), (⟨"StandUpBookModel", "isSooner", "(I)Z"⟩, 40), (⟨"StandUpBookModel", "isWornBy", "(I)Z"⟩, 40), (⟨"StandUpBookModel", "goesFrom", "(III)I"⟩, 40), (⟨"StandUpBookModel", "kindsOf", "(I)I"⟩, 40), (⟨"StandUpBookModel", "isStood", "()Z"⟩, 40), (⟨"StandUpBookModel", "rests", "(II)Z"⟩, 40), (⟨"StandUpBookModel", "firstGets", "(II)I"⟩, 40), (⟨"StandUpBookModel", "secondGets", "(II)I"⟩, 40), (⟨"StandUpBookModel", "lay", "(JJ)V"⟩, 40), (⟨"StandUpBookModel", "countOf", "(I)I"⟩, 40), (⟨"StandUpBookModel", "stuckMany", "()I"⟩, 40), (⟨"StandUpBookModel", "wearAll", "()I"⟩, 40), (⟨"StandUpBookModel", "mix", "(J)V"⟩, 40)]
theorem lw_r5 : ∀ q ∈ lw_privs_5, lw_okq q := List.forall_mem_cons.mpr ⟨lw_p64, List.forall_mem_cons.mpr ⟨lw_p65, List.forall_mem_cons.mpr ⟨lw_p66, List.forall_mem_cons.mpr ⟨lw_p67, List.forall_mem_cons.mpr ⟨lw_p68, List.forall_mem_cons.mpr ⟨lw_p69, List.forall_mem_cons.mpr ⟨lw_p70, List.forall_mem_cons.mpr ⟨lw_p71, List.forall_mem_cons.mpr ⟨lw_p72, List.forall_mem_cons.mpr ⟨lw_p73, List.forall_mem_cons.mpr ⟨lw_p74, List.forall_mem_cons.mpr ⟨lw_p75, List.forall_mem_cons.mpr ⟨lw_p76, List.forall_mem_cons.mpr ⟨lw_p77, List.forall_mem_cons.mpr ⟨lw_p78, List.forall_mem_cons.mpr ⟨lw_p79, fun _ h => absurd h List.not_mem_nil⟩⟩⟩⟩⟩⟩⟩⟩⟩⟩⟩⟩⟩⟩⟩⟩
def lw_privs : List (MethodName × Nat) := lw_privs_1 ++ (lw_privs_2 ++ (lw_privs_3 ++ (lw_privs_4 ++ (lw_privs_5))))
def lw_tbl : List Cond := k2_sels lw_privs ++ tables_1
theorem lw_privs_ok : ∀ q ∈ lw_privs, lw_okq q := by
  show ∀ q ∈ lw_privs_1 ++ (lw_privs_2 ++ (lw_privs_3 ++ (lw_privs_4 ++ (lw_privs_5)))), lw_okq q
  exact List.forall_mem_append.mpr ⟨lw_r1, List.forall_mem_append.mpr ⟨lw_r2, List.forall_mem_append.mpr ⟨lw_r3, List.forall_mem_append.mpr ⟨lw_r4, lw_r5⟩⟩⟩⟩

def pm_tbl : List Jvm.Cond := lw_tbl.filter goodWord
theorem pm_mem (i : Nat) {w : Jvm.Cond} (h : tables_1[i]? = some w) (hg : goodWord w = true) : w ∈ pm_tbl := List.mem_filter.mpr ⟨List.mem_append_right _ (List.mem_of_getElem? h), hg⟩
theorem pm_mems (i : Nat) {w : Jvm.Cond} (h : (k2_sels lw_privs)[i]? = some w) (hg : goodWord w = true) : w ∈ pm_tbl := List.mem_filter.mpr ⟨List.mem_append_left _ (List.mem_of_getElem? h), hg⟩
theorem pm_good {w : Jvm.Cond} (h : w ∈ pm_tbl) : w ∈ lw_tbl ∧ goodWord w = true := List.mem_filter.mp h
end
section
def k_cn : Nat → String := fun k => match k with
  | 0 => "StandUpBook$Box"
  | 1 => "StandUpBook$Flap"
  | 2 => "StandUpBook$Page"
  | 3 => "StandUpBook$Piece"
  | 4 => "StandUpBook$Spread"
  | 5 => "StandUpBook$Stage"
  | 6 => "StandUpBook$Tent"
  | 7 => "StandUpBook$Text"
  | 8 => "StandUpBook$Vee"
  | 9 => "StandUpBook$Walk"
  | 10 => "StandUpBook$Wheel"
  | 11 => "StandUpBook"
  | 12 => "StandUpBookModel"
  | 13 => "StandUpBookLaw"
  | 14 => "java/lang/Integer"
  | 15 => "java/lang/Math"
  | _ => "java/lang/Object"
def k_T0 : u_T := fun _ => ("", "", "", false)
def k_t0 : Nat → FieldType := fun _ => .int
theorem k_n0 : ∀ a, a < 0 → ∀ b, b < 0 → a ≠ b → (k_T0 a).2.1 ≠ (k_T0 b).2.1 := by decide +kernel
theorem k_o0 : ∀ k, k < 0 → parseFieldDescriptor (k_T0 k).2.2.1 = some (k_t0 k) := by decide +kernel
def k_T1 : u_T := fun _ => ("", "", "", false)
def k_t1 : Nat → FieldType := fun _ => .int
theorem k_n1 : ∀ a, a < 0 → ∀ b, b < 0 → a ≠ b → (k_T1 a).2.1 ≠ (k_T1 b).2.1 := by decide +kernel
theorem k_o1 : ∀ k, k < 0 → parseFieldDescriptor (k_T1 k).2.2.1 = some (k_t1 k) := by decide +kernel
def k_T2 : u_T := fun k => match k with
  | 0 => ("StandUpBook$Page", "kinds", "[LStandUpBook$Vee;", true)
  | 1 => ("StandUpBook$Page", "pieces", "[LStandUpBook$Piece;", true)
  | 2 => ("StandUpBook$Page", "heights", "[I", true)
  | 3 => ("StandUpBook$Page", "wide", "I", false)
  | 4 => ("StandUpBook$Page", "open", "I", false)
  | _ => ("StandUpBook$Page", "many", "I", false)
def k_t2 : Nat → FieldType := fun k => match k with
  | 0 => (.array (.object "StandUpBook$Vee"))
  | 1 => (.array (.object "StandUpBook$Piece"))
  | 2 => (.array .int)
  | 3 => .int
  | 4 => .int
  | _ => .int
theorem k_n2 : ∀ a, a < 6 → ∀ b, b < 6 → a ≠ b → (k_T2 a).2.1 ≠ (k_T2 b).2.1 := by decide +kernel
theorem k_o2 : ∀ k, k < 6 → parseFieldDescriptor (k_T2 k).2.2.1 = some (k_t2 k) := by decide +kernel
def k_T3 : u_T := fun k => match k with
  | 0 => ("StandUpBook$Piece", "kind", "I", false)
  | 1 => ("StandUpBook$Piece", "arm", "I", false)
  | 2 => ("StandUpBook$Piece", "tall", "I", false)
  | 3 => ("StandUpBook$Piece", "row", "I", false)
  | 4 => ("StandUpBook$Piece", "on", "I", false)
  | 5 => ("StandUpBook$Piece", "tab", "I", false)
  | 6 => ("StandUpBook$Piece", "wear", "I", false)
  | _ => ("StandUpBook$Piece", "bears", "I", false)
def k_t3 : Nat → FieldType := fun k => match k with
  | 0 => .int
  | 1 => .int
  | 2 => .int
  | 3 => .int
  | 4 => .int
  | 5 => .int
  | 6 => .int
  | _ => .int
theorem k_n3 : ∀ a, a < 8 → ∀ b, b < 8 → a ≠ b → (k_T3 a).2.1 ≠ (k_T3 b).2.1 := by decide +kernel
theorem k_o3 : ∀ k, k < 8 → parseFieldDescriptor (k_T3 k).2.2.1 = some (k_t3 k) := by decide +kernel
def k_T4 : u_T := fun k => match k with
  | 0 => ("StandUpBook$Spread", "page", "LStandUpBook$Page;", true)
  | 1 => ("StandUpBook$Spread", "past", "[LStandUpBook$Page;", true)
  | 2 => ("StandUpBook$Spread", "notes", "[[I", true)
  | 3 => ("StandUpBook$Spread", "stoodOnes", "[[I", true)
  | 4 => ("StandUpBook$Spread", "undoable", "I", false)
  | 5 => ("StandUpBook$Spread", "noteMany", "I", false)
  | _ => ("StandUpBook$Spread", "stoodMany", "I", false)
def k_t4 : Nat → FieldType := fun k => match k with
  | 0 => (.object "StandUpBook$Page")
  | 1 => (.array (.object "StandUpBook$Page"))
  | 2 => (.array (.array .int))
  | 3 => (.array (.array .int))
  | 4 => .int
  | 5 => .int
  | _ => .int
theorem k_n4 : ∀ a, a < 7 → ∀ b, b < 7 → a ≠ b → (k_T4 a).2.1 ≠ (k_T4 b).2.1 := by decide +kernel
theorem k_o4 : ∀ k, k < 7 → parseFieldDescriptor (k_T4 k).2.2.1 = some (k_t4 k) := by decide +kernel
def k_T5 : u_T := fun _ => ("", "", "", false)
def k_t5 : Nat → FieldType := fun _ => .int
theorem k_n5 : ∀ a, a < 0 → ∀ b, b < 0 → a ≠ b → (k_T5 a).2.1 ≠ (k_T5 b).2.1 := by decide +kernel
theorem k_o5 : ∀ k, k < 0 → parseFieldDescriptor (k_T5 k).2.2.1 = some (k_t5 k) := by decide +kernel
def k_T6 : u_T := fun _ => ("", "", "", false)
def k_t6 : Nat → FieldType := fun _ => .int
theorem k_n6 : ∀ a, a < 0 → ∀ b, b < 0 → a ≠ b → (k_T6 a).2.1 ≠ (k_T6 b).2.1 := by decide +kernel
theorem k_o6 : ∀ k, k < 0 → parseFieldDescriptor (k_T6 k).2.2.1 = some (k_t6 k) := by decide +kernel
def k_T7 : u_T := fun k => match k with
  | 0 => ("StandUpBook$Text", "bytes", "[B", true)
  | 1 => ("StandUpBook$Text", "length", "I", false)
  | 2 => ("StandUpBook$Text", "sort", "I", false)
  | 3 => ("StandUpBook$Text", "start", "I", false)
  | 4 => ("StandUpBook$Text", "end", "I", false)
  | 5 => ("StandUpBook$Text", "value", "I", false)
  | _ => ("StandUpBook$Text", "fault", "I", false)
def k_t7 : Nat → FieldType := fun k => match k with
  | 0 => (.array .byte)
  | 1 => .int
  | 2 => .int
  | 3 => .int
  | 4 => .int
  | 5 => .int
  | _ => .int
theorem k_n7 : ∀ a, a < 7 → ∀ b, b < 7 → a ≠ b → (k_T7 a).2.1 ≠ (k_T7 b).2.1 := by decide +kernel
theorem k_o7 : ∀ k, k < 7 → parseFieldDescriptor (k_T7 k).2.2.1 = some (k_t7 k) := by decide +kernel
def k_T8 : u_T := fun _ => ("", "", "", false)
def k_t8 : Nat → FieldType := fun _ => .int
theorem k_n8 : ∀ a, a < 0 → ∀ b, b < 0 → a ≠ b → (k_T8 a).2.1 ≠ (k_T8 b).2.1 := by decide +kernel
theorem k_o8 : ∀ k, k < 0 → parseFieldDescriptor (k_T8 k).2.2.1 = some (k_t8 k) := by decide +kernel
def k_T9 : u_T := fun k => match k with
  | 0 => ("StandUpBook$Walk", "shown", "[I", true)
  | _ => ("StandUpBook$Walk", "wanted", "I", false)
def k_t9 : Nat → FieldType := fun k => match k with
  | 0 => (.array .int)
  | _ => .int
theorem k_n9 : ∀ a, a < 2 → ∀ b, b < 2 → a ≠ b → (k_T9 a).2.1 ≠ (k_T9 b).2.1 := by decide +kernel
theorem k_o9 : ∀ k, k < 2 → parseFieldDescriptor (k_T9 k).2.2.1 = some (k_t9 k) := by decide +kernel
def k_T10 : u_T := fun _ => ("", "", "", false)
def k_t10 : Nat → FieldType := fun _ => .int
theorem k_n10 : ∀ a, a < 0 → ∀ b, b < 0 → a ≠ b → (k_T10 a).2.1 ≠ (k_T10 b).2.1 := by decide +kernel
theorem k_o10 : ∀ k, k < 0 → parseFieldDescriptor (k_T10 k).2.2.1 = some (k_t10 k) := by decide +kernel
def k_T11 : u_T := fun k => match k with
  | 0 => ("StandUpBook", "now", "LStandUpBook$Spread;", true)
  | 1 => ("StandUpBook", "images", "[LStandUpBook$Spread;", true)
  | 2 => ("StandUpBook", "kept", "[Z", true)
  | 3 => ("StandUpBook", "text", "LStandUpBook$Text;", true)
  | 4 => ("StandUpBook", "trial", "LStandUpBook$Page;", true)
  | 5 => ("StandUpBook", "walk", "LStandUpBook$Walk;", true)
  | 6 => ("StandUpBook", "seenMany", "[I", true)
  | 7 => ("StandUpBook", "highest", "[I", true)
  | 8 => ("StandUpBook", "above", "J", false)
  | 9 => ("StandUpBook", "below", "J", false)
  | 10 => ("StandUpBook", "badOnes", "I", false)
  | 11 => ("StandUpBook", "noOnes", "I", false)
  | _ => ("StandUpBook", "fullOnes", "I", false)
def k_t11 : Nat → FieldType := fun k => match k with
  | 0 => (.object "StandUpBook$Spread")
  | 1 => (.array (.object "StandUpBook$Spread"))
  | 2 => (.array .boolean)
  | 3 => (.object "StandUpBook$Text")
  | 4 => (.object "StandUpBook$Page")
  | 5 => (.object "StandUpBook$Walk")
  | 6 => (.array .int)
  | 7 => (.array .int)
  | 8 => .long
  | 9 => .long
  | 10 => .int
  | 11 => .int
  | _ => .int
theorem k_n11 : ∀ a, a < 13 → ∀ b, b < 13 → a ≠ b → (k_T11 a).2.1 ≠ (k_T11 b).2.1 := by decide +kernel
theorem k_o11 : ∀ k, k < 13 → parseFieldDescriptor (k_T11 k).2.2.1 = some (k_t11 k) := by decide +kernel
def k_T12 : u_T := fun k => match k with
  | 0 => ("StandUpBookModel", "refused", "[I", true)
  | 1 => ("StandUpBookModel", "many", "I", false)
  | 2 => ("StandUpBookModel", "open", "I", false)
  | 3 => ("StandUpBookModel", "wide", "I", false)
  | 4 => ("StandUpBookModel", "noteMany", "I", false)
  | 5 => ("StandUpBookModel", "stoodMany", "I", false)
  | 6 => ("StandUpBookModel", "kinds", "[I", true)
  | 7 => ("StandUpBookModel", "arms", "[I", true)
  | 8 => ("StandUpBookModel", "talls", "[I", true)
  | 9 => ("StandUpBookModel", "rows", "[I", true)
  | 10 => ("StandUpBookModel", "ons", "[I", true)
  | 11 => ("StandUpBookModel", "tabs", "[I", true)
  | 12 => ("StandUpBookModel", "wears", "[I", true)
  | 13 => ("StandUpBookModel", "noted", "[I", true)
  | 14 => ("StandUpBookModel", "stoodAt", "[I", true)
  | 15 => ("StandUpBookModel", "stoodSet", "[I", true)
  | 16 => ("StandUpBookModel", "text", "[I", true)
  | 17 => ("StandUpBookModel", "typed", "I", false)
  | 18 => ("StandUpBookModel", "readAt", "I", false)
  | 19 => ("StandUpBookModel", "readNumber", "I", false)
  | 20 => ("StandUpBookModel", "readPiece", "[I", true)
  | 21 => ("StandUpBookModel", "before", "[I", true)
  | 22 => ("StandUpBookModel", "sticking", "I", false)
  | 23 => ("StandUpBookModel", "high", "[I", true)
  | 24 => ("StandUpBookModel", "ahead", "[I", true)
  | 25 => ("StandUpBookModel", "undoMany", "I", false)
  | 26 => ("StandUpBookModel", "aside", "[I", true)
  | 27 => ("StandUpBookModel", "numbers", "[I", true)
  | 28 => ("StandUpBookModel", "seenBy", "[I", true)
  | 29 => ("StandUpBookModel", "walk", "[I", true)
  | 30 => ("StandUpBookModel", "bestWalk", "[I", true)
  | 31 => ("StandUpBookModel", "steps", "I", false)
  | 32 => ("StandUpBookModel", "wins", "[I", true)
  | 33 => ("StandUpBookModel", "seenMany", "[I", true)
  | 34 => ("StandUpBookModel", "highest", "[I", true)
  | 35 => ("StandUpBookModel", "above", "J", false)
  | 36 => ("StandUpBookModel", "below", "J", false)
  | 37 => ("StandUpBookModel", "images", "[I", true)
  | 38 => ("StandUpBookModel", "isKept", "[I", true)
  | _ => ("StandUpBookModel", "h0", "J", false)
def k_t12 : Nat → FieldType := fun k => match k with
  | 0 => (.array .int)
  | 1 => .int
  | 2 => .int
  | 3 => .int
  | 4 => .int
  | 5 => .int
  | 6 => (.array .int)
  | 7 => (.array .int)
  | 8 => (.array .int)
  | 9 => (.array .int)
  | 10 => (.array .int)
  | 11 => (.array .int)
  | 12 => (.array .int)
  | 13 => (.array .int)
  | 14 => (.array .int)
  | 15 => (.array .int)
  | 16 => (.array .int)
  | 17 => .int
  | 18 => .int
  | 19 => .int
  | 20 => (.array .int)
  | 21 => (.array .int)
  | 22 => .int
  | 23 => (.array .int)
  | 24 => (.array .int)
  | 25 => .int
  | 26 => (.array .int)
  | 27 => (.array .int)
  | 28 => (.array .int)
  | 29 => (.array .int)
  | 30 => (.array .int)
  | 31 => .int
  | 32 => (.array .int)
  | 33 => (.array .int)
  | 34 => (.array .int)
  | 35 => .long
  | 36 => .long
  | 37 => (.array .int)
  | 38 => (.array .int)
  | _ => .long
theorem k_n12 : ∀ a, a < 40 → ∀ b, b < 40 → a ≠ b → (k_T12 a).2.1 ≠ (k_T12 b).2.1 := by decide +kernel
theorem k_o12 : ∀ k, k < 40 → parseFieldDescriptor (k_T12 k).2.2.1 = some (k_t12 k) := by decide +kernel
def k_cl : List vw_C := [("StandUpBook$Box", k_T0, 0), ("StandUpBook$Flap", k_T1, 0), ("StandUpBook$Page", k_T2, 6), ("StandUpBook$Piece", k_T3, 8), ("StandUpBook$Spread", k_T4, 7), ("StandUpBook$Stage", k_T5, 0), ("StandUpBook$Tent", k_T6, 0), ("StandUpBook$Text", k_T7, 7), ("StandUpBook$Vee", k_T8, 0), ("StandUpBook$Walk", k_T9, 2), ("StandUpBook$Wheel", k_T10, 0), ("StandUpBook", k_T11, 13), ("StandUpBookModel", k_T12, 40)]
def k_ty : Nat → Nat → FieldType := fun c => match c with
  | 0 => k_t0
  | 1 => k_t1
  | 2 => k_t2
  | 3 => k_t3
  | 4 => k_t4
  | 5 => k_t5
  | 6 => k_t6
  | 7 => k_t7
  | 8 => k_t8
  | 9 => k_t9
  | 10 => k_t10
  | 11 => k_t11
  | _ => k_t12
/-- the code of a field: 0 int, 1 long, 2 a reference -/
def k_fc : Nat → Nat → Nat := fun c j => match k_ty c j with
  | .int => 0
  | .long => 1
  | _ => 2
theorem k_in0 : ∀ w ∈ u_ws "StandUpBook$Box" k_T0 0, w ∈ pm_tbl := fun w h => by simp [u_ws] at h
theorem k_in1 : ∀ w ∈ u_ws "StandUpBook$Flap" k_T1 0, w ∈ pm_tbl := fun w h => by simp [u_ws] at h
theorem k_l2_0 : (Jvm.Cond.laysFinal "StandUpBook$Page" "StandUpBook$Page" "kinds" "[LStandUpBook$Vee;") ∈ pm_tbl := pm_mem 198 (by decide +kernel) rfl
theorem k_l2_1 : (Jvm.Cond.laysFinal "StandUpBook$Page" "StandUpBook$Page" "pieces" "[LStandUpBook$Piece;") ∈ pm_tbl := pm_mem 200 (by decide +kernel) rfl
theorem k_l2_2 : (Jvm.Cond.laysFinal "StandUpBook$Page" "StandUpBook$Page" "heights" "[I") ∈ pm_tbl := pm_mem 202 (by decide +kernel) rfl
theorem k_l2_3 : (Jvm.Cond.lays "StandUpBook$Page" "StandUpBook$Page" "wide" "I") ∈ pm_tbl := pm_mem 204 (by decide +kernel) rfl
theorem k_l2_4 : (Jvm.Cond.lays "StandUpBook$Page" "StandUpBook$Page" "open" "I") ∈ pm_tbl := pm_mem 206 (by decide +kernel) rfl
theorem k_l2_5 : (Jvm.Cond.lays "StandUpBook$Page" "StandUpBook$Page" "many" "I") ∈ pm_tbl := pm_mem 208 (by decide +kernel) rfl
theorem k_in2 : ∀ w ∈ u_ws "StandUpBook$Page" k_T2 6, w ∈ pm_tbl := by
  intro w h
  obtain ⟨k, hk, rfl⟩ := List.mem_map.mp h
  have hk := List.mem_range.mp hk
  match k, hk with
  | 0, _ => exact k_l2_0
  | 1, _ => exact k_l2_1
  | 2, _ => exact k_l2_2
  | 3, _ => exact k_l2_3
  | 4, _ => exact k_l2_4
  | 5, _ => exact k_l2_5
  | k + 6, h => omega
theorem k_l3_0 : (Jvm.Cond.lays "StandUpBook$Piece" "StandUpBook$Piece" "kind" "I") ∈ pm_tbl := pm_mem 167 (by decide +kernel) rfl
theorem k_l3_1 : (Jvm.Cond.lays "StandUpBook$Piece" "StandUpBook$Piece" "arm" "I") ∈ pm_tbl := pm_mem 169 (by decide +kernel) rfl
theorem k_l3_2 : (Jvm.Cond.lays "StandUpBook$Piece" "StandUpBook$Piece" "tall" "I") ∈ pm_tbl := pm_mem 171 (by decide +kernel) rfl
theorem k_l3_3 : (Jvm.Cond.lays "StandUpBook$Piece" "StandUpBook$Piece" "row" "I") ∈ pm_tbl := pm_mem 173 (by decide +kernel) rfl
theorem k_l3_4 : (Jvm.Cond.lays "StandUpBook$Piece" "StandUpBook$Piece" "on" "I") ∈ pm_tbl := pm_mem 175 (by decide +kernel) rfl
theorem k_l3_5 : (Jvm.Cond.lays "StandUpBook$Piece" "StandUpBook$Piece" "tab" "I") ∈ pm_tbl := pm_mem 177 (by decide +kernel) rfl
theorem k_l3_6 : (Jvm.Cond.lays "StandUpBook$Piece" "StandUpBook$Piece" "wear" "I") ∈ pm_tbl := pm_mem 179 (by decide +kernel) rfl
theorem k_l3_7 : (Jvm.Cond.lays "StandUpBook$Piece" "StandUpBook$Piece" "bears" "I") ∈ pm_tbl := pm_mem 181 (by decide +kernel) rfl
theorem k_in3 : ∀ w ∈ u_ws "StandUpBook$Piece" k_T3 8, w ∈ pm_tbl := by
  intro w h
  obtain ⟨k, hk, rfl⟩ := List.mem_map.mp h
  have hk := List.mem_range.mp hk
  match k, hk with
  | 0, _ => exact k_l3_0
  | 1, _ => exact k_l3_1
  | 2, _ => exact k_l3_2
  | 3, _ => exact k_l3_3
  | 4, _ => exact k_l3_4
  | 5, _ => exact k_l3_5
  | 6, _ => exact k_l3_6
  | 7, _ => exact k_l3_7
  | k + 8, h => omega
theorem k_l4_0 : (Jvm.Cond.laysFinal "StandUpBook$Spread" "StandUpBook$Spread" "page" "LStandUpBook$Page;") ∈ pm_tbl := pm_mem 224 (by decide +kernel) rfl
theorem k_l4_1 : (Jvm.Cond.laysFinal "StandUpBook$Spread" "StandUpBook$Spread" "past" "[LStandUpBook$Page;") ∈ pm_tbl := pm_mem 226 (by decide +kernel) rfl
theorem k_l4_2 : (Jvm.Cond.laysFinal "StandUpBook$Spread" "StandUpBook$Spread" "notes" "[[I") ∈ pm_tbl := pm_mem 228 (by decide +kernel) rfl
theorem k_l4_3 : (Jvm.Cond.laysFinal "StandUpBook$Spread" "StandUpBook$Spread" "stoodOnes" "[[I") ∈ pm_tbl := pm_mem 230 (by decide +kernel) rfl
theorem k_l4_4 : (Jvm.Cond.lays "StandUpBook$Spread" "StandUpBook$Spread" "undoable" "I") ∈ pm_tbl := pm_mem 232 (by decide +kernel) rfl
theorem k_l4_5 : (Jvm.Cond.lays "StandUpBook$Spread" "StandUpBook$Spread" "noteMany" "I") ∈ pm_tbl := pm_mem 234 (by decide +kernel) rfl
theorem k_l4_6 : (Jvm.Cond.lays "StandUpBook$Spread" "StandUpBook$Spread" "stoodMany" "I") ∈ pm_tbl := pm_mem 236 (by decide +kernel) rfl
theorem k_in4 : ∀ w ∈ u_ws "StandUpBook$Spread" k_T4 7, w ∈ pm_tbl := by
  intro w h
  obtain ⟨k, hk, rfl⟩ := List.mem_map.mp h
  have hk := List.mem_range.mp hk
  match k, hk with
  | 0, _ => exact k_l4_0
  | 1, _ => exact k_l4_1
  | 2, _ => exact k_l4_2
  | 3, _ => exact k_l4_3
  | 4, _ => exact k_l4_4
  | 5, _ => exact k_l4_5
  | 6, _ => exact k_l4_6
  | k + 7, h => omega
theorem k_in5 : ∀ w ∈ u_ws "StandUpBook$Stage" k_T5 0, w ∈ pm_tbl := fun w h => by simp [u_ws] at h
theorem k_in6 : ∀ w ∈ u_ws "StandUpBook$Tent" k_T6 0, w ∈ pm_tbl := fun w h => by simp [u_ws] at h
theorem k_l7_0 : (Jvm.Cond.laysFinal "StandUpBook$Text" "StandUpBook$Text" "bytes" "[B") ∈ pm_tbl := pm_mem 45 (by decide +kernel) rfl
theorem k_l7_1 : (Jvm.Cond.lays "StandUpBook$Text" "StandUpBook$Text" "length" "I") ∈ pm_tbl := pm_mem 47 (by decide +kernel) rfl
theorem k_l7_2 : (Jvm.Cond.lays "StandUpBook$Text" "StandUpBook$Text" "sort" "I") ∈ pm_tbl := pm_mem 49 (by decide +kernel) rfl
theorem k_l7_3 : (Jvm.Cond.lays "StandUpBook$Text" "StandUpBook$Text" "start" "I") ∈ pm_tbl := pm_mem 51 (by decide +kernel) rfl
theorem k_l7_4 : (Jvm.Cond.lays "StandUpBook$Text" "StandUpBook$Text" "end" "I") ∈ pm_tbl := pm_mem 53 (by decide +kernel) rfl
theorem k_l7_5 : (Jvm.Cond.lays "StandUpBook$Text" "StandUpBook$Text" "value" "I") ∈ pm_tbl := pm_mem 55 (by decide +kernel) rfl
theorem k_l7_6 : (Jvm.Cond.lays "StandUpBook$Text" "StandUpBook$Text" "fault" "I") ∈ pm_tbl := pm_mem 57 (by decide +kernel) rfl
theorem k_in7 : ∀ w ∈ u_ws "StandUpBook$Text" k_T7 7, w ∈ pm_tbl := by
  intro w h
  obtain ⟨k, hk, rfl⟩ := List.mem_map.mp h
  have hk := List.mem_range.mp hk
  match k, hk with
  | 0, _ => exact k_l7_0
  | 1, _ => exact k_l7_1
  | 2, _ => exact k_l7_2
  | 3, _ => exact k_l7_3
  | 4, _ => exact k_l7_4
  | 5, _ => exact k_l7_5
  | 6, _ => exact k_l7_6
  | k + 7, h => omega
theorem k_in8 : ∀ w ∈ u_ws "StandUpBook$Vee" k_T8 0, w ∈ pm_tbl := fun w h => by simp [u_ws] at h
theorem k_l9_0 : (Jvm.Cond.laysFinal "StandUpBook$Walk" "StandUpBook$Walk" "shown" "[I") ∈ pm_tbl := pm_mem 72 (by decide +kernel) rfl
theorem k_l9_1 : (Jvm.Cond.lays "StandUpBook$Walk" "StandUpBook$Walk" "wanted" "I") ∈ pm_tbl := pm_mem 74 (by decide +kernel) rfl
theorem k_in9 : ∀ w ∈ u_ws "StandUpBook$Walk" k_T9 2, w ∈ pm_tbl := by
  intro w h
  obtain ⟨k, hk, rfl⟩ := List.mem_map.mp h
  have hk := List.mem_range.mp hk
  match k, hk with
  | 0, _ => exact k_l9_0
  | 1, _ => exact k_l9_1
  | k + 2, h => omega
theorem k_in10 : ∀ w ∈ u_ws "StandUpBook$Wheel" k_T10 0, w ∈ pm_tbl := fun w h => by simp [u_ws] at h
theorem k_l11_0 : (Jvm.Cond.laysFinal "StandUpBook" "StandUpBook" "now" "LStandUpBook$Spread;") ∈ pm_tbl := pm_mem 254 (by decide +kernel) rfl
theorem k_l11_1 : (Jvm.Cond.laysFinal "StandUpBook" "StandUpBook" "images" "[LStandUpBook$Spread;") ∈ pm_tbl := pm_mem 256 (by decide +kernel) rfl
theorem k_l11_2 : (Jvm.Cond.laysFinal "StandUpBook" "StandUpBook" "kept" "[Z") ∈ pm_tbl := pm_mem 258 (by decide +kernel) rfl
theorem k_l11_3 : (Jvm.Cond.laysFinal "StandUpBook" "StandUpBook" "text" "LStandUpBook$Text;") ∈ pm_tbl := pm_mem 260 (by decide +kernel) rfl
theorem k_l11_4 : (Jvm.Cond.laysFinal "StandUpBook" "StandUpBook" "trial" "LStandUpBook$Page;") ∈ pm_tbl := pm_mem 262 (by decide +kernel) rfl
theorem k_l11_5 : (Jvm.Cond.laysFinal "StandUpBook" "StandUpBook" "walk" "LStandUpBook$Walk;") ∈ pm_tbl := pm_mem 264 (by decide +kernel) rfl
theorem k_l11_6 : (Jvm.Cond.laysFinal "StandUpBook" "StandUpBook" "seenMany" "[I") ∈ pm_tbl := pm_mem 266 (by decide +kernel) rfl
theorem k_l11_7 : (Jvm.Cond.laysFinal "StandUpBook" "StandUpBook" "highest" "[I") ∈ pm_tbl := pm_mem 268 (by decide +kernel) rfl
theorem k_l11_8 : (Jvm.Cond.lays "StandUpBook" "StandUpBook" "above" "J") ∈ pm_tbl := pm_mem 270 (by decide +kernel) rfl
theorem k_l11_9 : (Jvm.Cond.lays "StandUpBook" "StandUpBook" "below" "J") ∈ pm_tbl := pm_mem 272 (by decide +kernel) rfl
theorem k_l11_10 : (Jvm.Cond.lays "StandUpBook" "StandUpBook" "badOnes" "I") ∈ pm_tbl := pm_mem 274 (by decide +kernel) rfl
theorem k_l11_11 : (Jvm.Cond.lays "StandUpBook" "StandUpBook" "noOnes" "I") ∈ pm_tbl := pm_mem 276 (by decide +kernel) rfl
theorem k_l11_12 : (Jvm.Cond.lays "StandUpBook" "StandUpBook" "fullOnes" "I") ∈ pm_tbl := pm_mem 278 (by decide +kernel) rfl
theorem k_in11 : ∀ w ∈ u_ws "StandUpBook" k_T11 13, w ∈ pm_tbl := by
  intro w h
  obtain ⟨k, hk, rfl⟩ := List.mem_map.mp h
  have hk := List.mem_range.mp hk
  match k, hk with
  | 0, _ => exact k_l11_0
  | 1, _ => exact k_l11_1
  | 2, _ => exact k_l11_2
  | 3, _ => exact k_l11_3
  | 4, _ => exact k_l11_4
  | 5, _ => exact k_l11_5
  | 6, _ => exact k_l11_6
  | 7, _ => exact k_l11_7
  | 8, _ => exact k_l11_8
  | 9, _ => exact k_l11_9
  | 10, _ => exact k_l11_10
  | 11, _ => exact k_l11_11
  | 12, _ => exact k_l11_12
  | k + 13, h => omega
theorem k_l12_0 : (Jvm.Cond.laysFinal "StandUpBookModel" "StandUpBookModel" "refused" "[I") ∈ pm_tbl := pm_mem 903 (by decide +kernel) rfl
theorem k_l12_1 : (Jvm.Cond.lays "StandUpBookModel" "StandUpBookModel" "many" "I") ∈ pm_tbl := pm_mem 905 (by decide +kernel) rfl
theorem k_l12_2 : (Jvm.Cond.lays "StandUpBookModel" "StandUpBookModel" "open" "I") ∈ pm_tbl := pm_mem 907 (by decide +kernel) rfl
theorem k_l12_3 : (Jvm.Cond.lays "StandUpBookModel" "StandUpBookModel" "wide" "I") ∈ pm_tbl := pm_mem 909 (by decide +kernel) rfl
theorem k_l12_4 : (Jvm.Cond.lays "StandUpBookModel" "StandUpBookModel" "noteMany" "I") ∈ pm_tbl := pm_mem 911 (by decide +kernel) rfl
theorem k_l12_5 : (Jvm.Cond.lays "StandUpBookModel" "StandUpBookModel" "stoodMany" "I") ∈ pm_tbl := pm_mem 913 (by decide +kernel) rfl
theorem k_l12_6 : (Jvm.Cond.laysFinal "StandUpBookModel" "StandUpBookModel" "kinds" "[I") ∈ pm_tbl := pm_mem 915 (by decide +kernel) rfl
theorem k_l12_7 : (Jvm.Cond.laysFinal "StandUpBookModel" "StandUpBookModel" "arms" "[I") ∈ pm_tbl := pm_mem 917 (by decide +kernel) rfl
theorem k_l12_8 : (Jvm.Cond.laysFinal "StandUpBookModel" "StandUpBookModel" "talls" "[I") ∈ pm_tbl := pm_mem 919 (by decide +kernel) rfl
theorem k_l12_9 : (Jvm.Cond.laysFinal "StandUpBookModel" "StandUpBookModel" "rows" "[I") ∈ pm_tbl := pm_mem 921 (by decide +kernel) rfl
theorem k_l12_10 : (Jvm.Cond.laysFinal "StandUpBookModel" "StandUpBookModel" "ons" "[I") ∈ pm_tbl := pm_mem 923 (by decide +kernel) rfl
theorem k_l12_11 : (Jvm.Cond.laysFinal "StandUpBookModel" "StandUpBookModel" "tabs" "[I") ∈ pm_tbl := pm_mem 925 (by decide +kernel) rfl
theorem k_l12_12 : (Jvm.Cond.laysFinal "StandUpBookModel" "StandUpBookModel" "wears" "[I") ∈ pm_tbl := pm_mem 927 (by decide +kernel) rfl
theorem k_l12_13 : (Jvm.Cond.laysFinal "StandUpBookModel" "StandUpBookModel" "noted" "[I") ∈ pm_tbl := pm_mem 929 (by decide +kernel) rfl
theorem k_l12_14 : (Jvm.Cond.laysFinal "StandUpBookModel" "StandUpBookModel" "stoodAt" "[I") ∈ pm_tbl := pm_mem 931 (by decide +kernel) rfl
theorem k_l12_15 : (Jvm.Cond.laysFinal "StandUpBookModel" "StandUpBookModel" "stoodSet" "[I") ∈ pm_tbl := pm_mem 933 (by decide +kernel) rfl
theorem k_l12_16 : (Jvm.Cond.laysFinal "StandUpBookModel" "StandUpBookModel" "text" "[I") ∈ pm_tbl := pm_mem 935 (by decide +kernel) rfl
theorem k_l12_17 : (Jvm.Cond.lays "StandUpBookModel" "StandUpBookModel" "typed" "I") ∈ pm_tbl := pm_mem 937 (by decide +kernel) rfl
theorem k_l12_18 : (Jvm.Cond.lays "StandUpBookModel" "StandUpBookModel" "readAt" "I") ∈ pm_tbl := pm_mem 939 (by decide +kernel) rfl
theorem k_l12_19 : (Jvm.Cond.lays "StandUpBookModel" "StandUpBookModel" "readNumber" "I") ∈ pm_tbl := pm_mem 941 (by decide +kernel) rfl
theorem k_l12_20 : (Jvm.Cond.laysFinal "StandUpBookModel" "StandUpBookModel" "readPiece" "[I") ∈ pm_tbl := pm_mem 943 (by decide +kernel) rfl
theorem k_l12_21 : (Jvm.Cond.laysFinal "StandUpBookModel" "StandUpBookModel" "before" "[I") ∈ pm_tbl := pm_mem 945 (by decide +kernel) rfl
theorem k_l12_22 : (Jvm.Cond.lays "StandUpBookModel" "StandUpBookModel" "sticking" "I") ∈ pm_tbl := pm_mem 947 (by decide +kernel) rfl
theorem k_l12_23 : (Jvm.Cond.laysFinal "StandUpBookModel" "StandUpBookModel" "high" "[I") ∈ pm_tbl := pm_mem 949 (by decide +kernel) rfl
theorem k_l12_24 : (Jvm.Cond.laysFinal "StandUpBookModel" "StandUpBookModel" "ahead" "[I") ∈ pm_tbl := pm_mem 951 (by decide +kernel) rfl
theorem k_l12_25 : (Jvm.Cond.lays "StandUpBookModel" "StandUpBookModel" "undoMany" "I") ∈ pm_tbl := pm_mem 953 (by decide +kernel) rfl
theorem k_l12_26 : (Jvm.Cond.laysFinal "StandUpBookModel" "StandUpBookModel" "aside" "[I") ∈ pm_tbl := pm_mem 955 (by decide +kernel) rfl
theorem k_l12_27 : (Jvm.Cond.laysFinal "StandUpBookModel" "StandUpBookModel" "numbers" "[I") ∈ pm_tbl := pm_mem 957 (by decide +kernel) rfl
theorem k_l12_28 : (Jvm.Cond.laysFinal "StandUpBookModel" "StandUpBookModel" "seenBy" "[I") ∈ pm_tbl := pm_mem 959 (by decide +kernel) rfl
theorem k_l12_29 : (Jvm.Cond.laysFinal "StandUpBookModel" "StandUpBookModel" "walk" "[I") ∈ pm_tbl := pm_mem 961 (by decide +kernel) rfl
theorem k_l12_30 : (Jvm.Cond.laysFinal "StandUpBookModel" "StandUpBookModel" "bestWalk" "[I") ∈ pm_tbl := pm_mem 963 (by decide +kernel) rfl
theorem k_l12_31 : (Jvm.Cond.lays "StandUpBookModel" "StandUpBookModel" "steps" "I") ∈ pm_tbl := pm_mem 965 (by decide +kernel) rfl
theorem k_l12_32 : (Jvm.Cond.laysFinal "StandUpBookModel" "StandUpBookModel" "wins" "[I") ∈ pm_tbl := pm_mem 967 (by decide +kernel) rfl
theorem k_l12_33 : (Jvm.Cond.laysFinal "StandUpBookModel" "StandUpBookModel" "seenMany" "[I") ∈ pm_tbl := pm_mem 969 (by decide +kernel) rfl
theorem k_l12_34 : (Jvm.Cond.laysFinal "StandUpBookModel" "StandUpBookModel" "highest" "[I") ∈ pm_tbl := pm_mem 971 (by decide +kernel) rfl
theorem k_l12_35 : (Jvm.Cond.lays "StandUpBookModel" "StandUpBookModel" "above" "J") ∈ pm_tbl := pm_mem 973 (by decide +kernel) rfl
theorem k_l12_36 : (Jvm.Cond.lays "StandUpBookModel" "StandUpBookModel" "below" "J") ∈ pm_tbl := pm_mem 975 (by decide +kernel) rfl
theorem k_l12_37 : (Jvm.Cond.laysFinal "StandUpBookModel" "StandUpBookModel" "images" "[I") ∈ pm_tbl := pm_mem 977 (by decide +kernel) rfl
theorem k_l12_38 : (Jvm.Cond.laysFinal "StandUpBookModel" "StandUpBookModel" "isKept" "[I") ∈ pm_tbl := pm_mem 979 (by decide +kernel) rfl
theorem k_l12_39 : (Jvm.Cond.lays "StandUpBookModel" "StandUpBookModel" "h0" "J") ∈ pm_tbl := pm_mem 981 (by decide +kernel) rfl
theorem k_in12 : ∀ w ∈ u_ws "StandUpBookModel" k_T12 40, w ∈ pm_tbl := by
  intro w h
  obtain ⟨k, hk, rfl⟩ := List.mem_map.mp h
  have hk := List.mem_range.mp hk
  match k, hk with
  | 0, _ => exact k_l12_0
  | 1, _ => exact k_l12_1
  | 2, _ => exact k_l12_2
  | 3, _ => exact k_l12_3
  | 4, _ => exact k_l12_4
  | 5, _ => exact k_l12_5
  | 6, _ => exact k_l12_6
  | 7, _ => exact k_l12_7
  | 8, _ => exact k_l12_8
  | 9, _ => exact k_l12_9
  | 10, _ => exact k_l12_10
  | 11, _ => exact k_l12_11
  | 12, _ => exact k_l12_12
  | 13, _ => exact k_l12_13
  | 14, _ => exact k_l12_14
  | 15, _ => exact k_l12_15
  | 16, _ => exact k_l12_16
  | 17, _ => exact k_l12_17
  | 18, _ => exact k_l12_18
  | 19, _ => exact k_l12_19
  | 20, _ => exact k_l12_20
  | 21, _ => exact k_l12_21
  | 22, _ => exact k_l12_22
  | 23, _ => exact k_l12_23
  | 24, _ => exact k_l12_24
  | 25, _ => exact k_l12_25
  | 26, _ => exact k_l12_26
  | 27, _ => exact k_l12_27
  | 28, _ => exact k_l12_28
  | 29, _ => exact k_l12_29
  | 30, _ => exact k_l12_30
  | 31, _ => exact k_l12_31
  | 32, _ => exact k_l12_32
  | 33, _ => exact k_l12_33
  | 34, _ => exact k_l12_34
  | 35, _ => exact k_l12_35
  | 36, _ => exact k_l12_36
  | 37, _ => exact k_l12_37
  | 38, _ => exact k_l12_38
  | 39, _ => exact k_l12_39
  | k + 40, h => omega
theorem k_ini0 : Jvm.Cond.initialized (k_cn 0) ∈ pm_tbl := pm_mem 6 (by decide +kernel) rfl
theorem k_ini1 : Jvm.Cond.initialized (k_cn 1) ∈ pm_tbl := pm_mem 7 (by decide +kernel) rfl
theorem k_ini2 : Jvm.Cond.initialized (k_cn 2) ∈ pm_tbl := pm_mem 11 (by decide +kernel) rfl
theorem k_ini3 : Jvm.Cond.initialized (k_cn 3) ∈ pm_tbl := pm_mem 12 (by decide +kernel) rfl
theorem k_ini4 : Jvm.Cond.initialized (k_cn 4) ∈ pm_tbl := pm_mem 10 (by decide +kernel) rfl
theorem k_ini5 : Jvm.Cond.initialized (k_cn 5) ∈ pm_tbl := pm_mem 8 (by decide +kernel) rfl
theorem k_ini6 : Jvm.Cond.initialized (k_cn 6) ∈ pm_tbl := pm_mem 5 (by decide +kernel) rfl
theorem k_ini7 : Jvm.Cond.initialized (k_cn 7) ∈ pm_tbl := pm_mem 2 (by decide +kernel) rfl
theorem k_ini8 : Jvm.Cond.initialized (k_cn 8) ∈ pm_tbl := pm_mem 4 (by decide +kernel) rfl
theorem k_ini9 : Jvm.Cond.initialized (k_cn 9) ∈ pm_tbl := pm_mem 3 (by decide +kernel) rfl
theorem k_ini10 : Jvm.Cond.initialized (k_cn 10) ∈ pm_tbl := pm_mem 9 (by decide +kernel) rfl
theorem k_ini11 : Jvm.Cond.initialized (k_cn 11) ∈ pm_tbl := pm_mem 1 (by decide +kernel) rfl
theorem k_ini12 : Jvm.Cond.initialized (k_cn 12) ∈ pm_tbl := pm_mem 13 (by decide +kernel) rfl
theorem k_ini13 : Jvm.Cond.initialized (k_cn 13) ∈ pm_tbl := pm_mem 0 (by decide +kernel) rfl
theorem k_ini14 : Jvm.Cond.initialized (k_cn 14) ∈ pm_tbl := pm_mem 19 (by decide +kernel) rfl
theorem k_ini15 : Jvm.Cond.initialized (k_cn 15) ∈ pm_tbl := pm_mem 18 (by decide +kernel) rfl
theorem k_ins0 : Jvm.Cond.instantiable "StandUpBook$Box" 0 ∈ pm_tbl := pm_mem 94 (by decide +kernel) rfl
theorem k_ins1 : Jvm.Cond.instantiable "StandUpBook$Flap" 0 ∈ pm_tbl := pm_mem 101 (by decide +kernel) rfl
theorem k_ins2 : Jvm.Cond.instantiable "StandUpBook$Page" 6 ∈ pm_tbl := pm_mem 130 (by decide +kernel) rfl
theorem k_ins3 : Jvm.Cond.instantiable "StandUpBook$Piece" 8 ∈ pm_tbl := pm_mem 137 (by decide +kernel) rfl
theorem k_ins4 : Jvm.Cond.instantiable "StandUpBook$Spread" 7 ∈ pm_tbl := pm_mem 121 (by decide +kernel) rfl
theorem k_ins5 : Jvm.Cond.instantiable "StandUpBook$Stage" 0 ∈ pm_tbl := pm_mem 108 (by decide +kernel) rfl
theorem k_ins6 : Jvm.Cond.instantiable "StandUpBook$Tent" 0 ∈ pm_tbl := pm_mem 87 (by decide +kernel) rfl
theorem k_ins7 : Jvm.Cond.instantiable "StandUpBook$Text" 7 ∈ pm_tbl := pm_mem 32 (by decide +kernel) rfl
theorem k_ins8 : Jvm.Cond.instantiable "StandUpBook$Vee" 0 ∈ pm_tbl := pm_mem 80 (by decide +kernel) rfl
theorem k_ins9 : Jvm.Cond.instantiable "StandUpBook$Walk" 2 ∈ pm_tbl := pm_mem 63 (by decide +kernel) rfl
theorem k_ins10 : Jvm.Cond.instantiable "StandUpBook$Wheel" 0 ∈ pm_tbl := pm_mem 115 (by decide +kernel) rfl
theorem k_ins11 : Jvm.Cond.instantiable "StandUpBook" 13 ∈ pm_tbl := pm_mem 22 (by decide +kernel) rfl
theorem k_ins12 : Jvm.Cond.instantiable "StandUpBookModel" 40 ∈ pm_tbl := pm_mem 854 (by decide +kernel) rfl
abbrev pm_D : Type := MethodName × Nat × ByteArray × Nat × Option FieldType × List (Nat × Instr × Nat)
def q_0 : pm_D := (⟨"StandUpBook$Box", "<init>", "()V"⟩, 0, prog_2_method_1_code, 1, (Option.none : Option FieldType), [(0, .aload_n 0, 1), (1, .invokespecial 3, 3), (4, .return_, 1)])
def q_1 : pm_D := (⟨"StandUpBook$Box", "riseOf", "(III)I"⟩, 0, prog_2_method_2_code, 4, (Option.some FieldType.int), [(0, .aload_n 0, 1), (1, .iload_n 1, 1), (2, .iload_n 2, 1), (3, .bipush 6, 2), (5, .if_icmp .gt 9, 3), (8, .iconst 2, 1), (9, .iload_n 2, 1), (10, .imul, 1), (11, .goto 9, 3), (14, .iconst 2, 1), (15, .bipush 12, 2), (17, .iload_n 2, 1), (18, .isub, 1), (19, .imul, 1), (20, .iload_n 3, 1), (21, .invokespecial 9, 3), (24, .ireturn, 1)])
def q_2 : pm_D := (⟨"StandUpBook$Box", "reachOf", "(II)I"⟩, 0, prog_2_method_3_code, 3, (Option.some FieldType.int), [(0, .aload_n 0, 1), (1, .iload_n 1, 1), (2, .iload_n 2, 1), (3, .invokespecial 13, 3), (6, .iconst 2, 1), (7, .iload_n 1, 1), (8, .imul, 1), (9, .iadd, 1), (10, .ireturn, 1)])
def q_3 : pm_D := (⟨"StandUpBook$Box", "bearing", "()I"⟩, 0, prog_2_method_4_code, 1, (Option.some FieldType.int), [(0, .aload_n 0, 1), (1, .invokespecial 17, 3), (4, .bipush 50, 2), (6, .iadd, 1), (7, .ireturn, 1)])
def q_4 : pm_D := (⟨"StandUpBook$Flap", "<init>", "()V"⟩, 1, prog_3_method_1_code, 1, (Option.none : Option FieldType), [(0, .aload_n 0, 1), (1, .invokespecial 1, 3), (4, .return_, 1)])
def q_5 : pm_D := (⟨"StandUpBook$Flap", "riseOf", "(III)I"⟩, 1, prog_3_method_2_code, 4, (Option.some FieldType.int), [(0, .iload_n 2, 1), (1, .iconst 4, 1), (2, .if_icmp .ge 7, 3), (5, .iconst 0, 1), (6, .goto 10, 3), (9, .aload_n 0, 1), (10, .iload_n 1, 1), (11, .iload_n 2, 1), (12, .iload_n 3, 1), (13, .invokespecial 7, 3), (16, .ireturn, 1)])
def q_6 : pm_D := (⟨"StandUpBook$Flap", "reachOf", "(II)I"⟩, 1, prog_3_method_3_code, 3, (Option.some FieldType.int), [(0, .aload_n 0, 1), (1, .iload_n 1, 1), (2, .iload_n 2, 1), (3, .invokespecial 11, 3), (6, .iload_n 1, 1), (7, .isub, 1), (8, .ireturn, 1)])
def q_7 : pm_D := (⟨"StandUpBook$Page", "<init>", "([LStandUpBook$Vee;)V"⟩, 2, prog_4_method_1_code, 3, (Option.none : Option FieldType), [(0, .aload_n 0, 1), (1, .invokespecial 3, 3), (4, .aload_n 0, 1), (5, .bipush 7, 2), (7, .anewarray 9, 3), (10, .putfield 11, 3), (13, .aload_n 0, 1), (14, .bipush 7, 2), (16, .newarray .int, 2), (18, .putfield 17, 3), (21, .aload_n 0, 1), (22, .bipush 20, 2), (24, .putfield 21, 3), (27, .aload_n 0, 1), (28, .iconst 0, 1), (29, .putfield 25, 3), (32, .aload_n 0, 1), (33, .iconst 0, 1), (34, .putfield 28, 3), (37, .aload_n 0, 1), (38, .aload_n 1, 1), (39, .putfield 31, 3), (42, .iconst 0, 1), (43, .istore_n 2, 1), (44, .iload_n 2, 1), (45, .bipush 7, 2), (47, .if_icmp .ge 22, 3), (50, .aload_n 0, 1), (51, .getfield 11, 3), (54, .iload_n 2, 1), (55, .new 9, 3), (58, .dup, 1), (59, .invokespecial 35, 3), (62, .aastore, 1), (63, .iinc 2 1, 3), (66, .goto (-22), 3), (69, .return_, 1)])
def q_8 : pm_D := (⟨"StandUpBook$Page", "startAnew", "(I)V"⟩, 2, prog_4_method_2_code, 2, (Option.none : Option FieldType), [(0, .aload_n 0, 1), (1, .iload_n 1, 1), (2, .putfield 21, 3), (5, .aload_n 0, 1), (6, .iconst 0, 1), (7, .putfield 25, 3), (10, .aload_n 0, 1), (11, .iconst 0, 1), (12, .putfield 28, 3), (15, .return_, 1)])
def q_9 : pm_D := (⟨"StandUpBook$Page", "copyFrom", "(LStandUpBook$Page;)V"⟩, 2, prog_4_method_3_code, 3, (Option.none : Option FieldType), [(0, .aload_n 0, 1), (1, .aload_n 1, 1), (2, .getfield 21, 3), (5, .putfield 21, 3), (8, .aload_n 0, 1), (9, .aload_n 1, 1), (10, .getfield 25, 3), (13, .putfield 25, 3), (16, .aload_n 0, 1), (17, .aload_n 1, 1), (18, .getfield 28, 3), (21, .putfield 28, 3), (24, .iconst 0, 1), (25, .istore_n 2, 1), (26, .iload_n 2, 1), (27, .aload_n 0, 1), (28, .getfield 28, 3), (31, .if_icmp .ge 24, 3), (34, .aload_n 0, 1), (35, .getfield 11, 3), (38, .iload_n 2, 1), (39, .aaload, 1), (40, .aload_n 1, 1), (41, .getfield 11, 3), (44, .iload_n 2, 1), (45, .aaload, 1), (46, .invokevirtual 36, 3), (49, .iinc 2 1, 3), (52, .goto (-26), 3), (55, .return_, 1)])
def q_10 : pm_D := (⟨"StandUpBook$Page", "isFull", "()Z"⟩, 2, prog_4_method_4_code, 1, (Option.some FieldType.boolean), [(0, .aload_n 0, 1), (1, .getfield 28, 3), (4, .bipush 7, 2), (6, .if_icmp .lt 7, 3), (9, .iconst 1, 1), (10, .goto 4, 3), (13, .iconst 0, 1), (14, .ireturn, 1)])
def q_11 : pm_D := (⟨"StandUpBook$Page", "glue", "(IIIII)I"⟩, 2, prog_4_method_5_code, 7, (Option.some FieldType.int), [(0, .aload_n 0, 1), (1, .invokevirtual 40, 3), (4, .ifCond .eq 5, 3), (7, .iconst (-1), 1), (8, .ireturn, 1), (9, .aload_n 0, 1), (10, .getfield 11, 3), (13, .aload_n 0, 1), (14, .getfield 28, 3), (17, .aaload, 1), (18, .astore 6, 2), (20, .aload 6, 2), (22, .iload_n 1, 1), (23, .putfield 44, 3), (26, .aload 6, 2), (28, .iload_n 2, 1), (29, .putfield 47, 3), (32, .aload 6, 2), (34, .iload_n 3, 1), (35, .putfield 50, 3), (38, .aload 6, 2), (40, .iload 4, 2), (42, .putfield 53, 3), (45, .aload 6, 2), (47, .iload 5, 2), (49, .putfield 56, 3), (52, .aload 6, 2), (54, .iconst 0, 1), (55, .putfield 59, 3), (58, .aload 6, 2), (60, .iconst 0, 1), (61, .putfield 62, 3), (64, .aload 6, 2), (66, .aload_n 0, 1), (67, .getfield 31, 3), (70, .iload_n 1, 1), (71, .aaload, 1), (72, .invokevirtual 65, 3), (75, .putfield 71, 3), (78, .aload_n 0, 1), (79, .dup, 1), (80, .getfield 28, 3), (83, .iconst 1, 1), (84, .iadd, 1), (85, .putfield 28, 3), (88, .aload_n 0, 1), (89, .getfield 28, 3), (92, .iconst 1, 1), (93, .isub, 1), (94, .ireturn, 1)])
def q_12 : pm_D := (⟨"StandUpBook$Page", "openTo", "(I)V"⟩, 2, prog_4_method_6_code, 4, (Option.none : Option FieldType), [(0, .iload_n 1, 1), (1, .aload_n 0, 1), (2, .getfield 25, 3), (5, .isub, 1), (6, .invokestatic 74, 3), (9, .istore_n 2, 1), (10, .iconst 0, 1), (11, .istore_n 3, 1), (12, .iload_n 3, 1), (13, .aload_n 0, 1), (14, .getfield 28, 3), (17, .if_icmp .ge 47, 3), (20, .aload_n 0, 1), (21, .getfield 11, 3), (24, .iload_n 3, 1), (25, .aaload, 1), (26, .invokevirtual 80, 3), (29, .ifCond .ne 29, 3), (32, .aload_n 0, 1), (33, .getfield 11, 3), (36, .iload_n 3, 1), (37, .aaload, 1), (38, .sipush 999, 3), (41, .aload_n 0, 1), (42, .getfield 11, 3), (45, .iload_n 3, 1), (46, .aaload, 1), (47, .getfield 62, 3), (50, .iload_n 2, 1), (51, .iadd, 1), (52, .invokestatic 83, 3), (55, .putfield 62, 3), (58, .iinc 3 1, 3), (61, .goto (-49), 3), (64, .aload_n 0, 1), (65, .iload_n 1, 1), (66, .putfield 25, 3), (69, .return_, 1)])
def q_13 : pm_D := (⟨"StandUpBook$Page", "tearOut", "(I)I"⟩, 2, prog_4_method_7_code, 5, (Option.some FieldType.int), [(0, .iconst 1, 1), (1, .iload_n 1, 1), (2, .ishl, 1), (3, .istore_n 2, 1), (4, .iload_n 1, 1), (5, .iconst 1, 1), (6, .iadd, 1), (7, .istore_n 3, 1), (8, .iload_n 3, 1), (9, .aload_n 0, 1), (10, .getfield 28, 3), (13, .if_icmp .ge 43, 3), (16, .aload_n 0, 1), (17, .getfield 11, 3), (20, .iload_n 3, 1), (21, .aaload, 1), (22, .getfield 56, 3), (25, .ifCond .lt 25, 3), (28, .iload_n 2, 1), (29, .aload_n 0, 1), (30, .getfield 11, 3), (33, .iload_n 3, 1), (34, .aaload, 1), (35, .getfield 56, 3), (38, .invokestatic 87, 3), (41, .ifCond .eq 9, 3), (44, .iload_n 2, 1), (45, .iconst 1, 1), (46, .iload_n 3, 1), (47, .ishl, 1), (48, .ior, 1), (49, .istore_n 2, 1), (50, .iinc 3 1, 3), (53, .goto (-45), 3), (56, .aload_n 0, 1), (57, .getfield 28, 3), (60, .istore_n 3, 1), (61, .aload_n 0, 1), (62, .iconst 0, 1), (63, .putfield 28, 3), (66, .iconst 0, 1), (67, .istore 4, 2), (69, .iload 4, 2), (71, .iload_n 3, 1), (72, .if_icmp .ge 73, 3), (75, .iload_n 2, 1), (76, .iload 4, 2), (78, .invokestatic 87, 3), (81, .ifCond .ne 58, 3), (84, .aload_n 0, 1), (85, .getfield 11, 3), (88, .aload_n 0, 1), (89, .getfield 28, 3), (92, .aaload, 1), (93, .aload_n 0, 1), (94, .getfield 11, 3), (97, .iload 4, 2), (99, .aaload, 1), (100, .invokevirtual 36, 3), (103, .aload_n 0, 1), (104, .getfield 11, 3), (107, .aload_n 0, 1), (108, .getfield 28, 3), (111, .aaload, 1), (112, .iload_n 2, 1), (113, .aload_n 0, 1), (114, .getfield 11, 3), (117, .iload 4, 2), (119, .aaload, 1), (120, .getfield 56, 3), (123, .invokestatic 91, 3), (126, .putfield 56, 3), (129, .aload_n 0, 1), (130, .dup, 1), (131, .getfield 28, 3), (134, .iconst 1, 1), (135, .iadd, 1), (136, .putfield 28, 3), (139, .iinc 4 1, 3), (142, .goto (-73), 3), (145, .iload_n 3, 1), (146, .aload_n 0, 1), (147, .getfield 28, 3), (150, .isub, 1), (151, .ireturn, 1)])
def q_14 : pm_D := (⟨"StandUpBook$Page", "numberWithout", "(II)I"⟩, 2, prog_4_method_8_code, 2, (Option.some FieldType.int), [(0, .iload_n 1, 1), (1, .ifCond .ge 7, 3), (4, .iconst (-1), 1), (5, .goto 15, 3), (8, .iload_n 0, 1), (9, .iconst (-1), 1), (10, .ixor, 1), (11, .iconst 1, 1), (12, .iload_n 1, 1), (13, .ishl, 1), (14, .iconst 1, 1), (15, .isub, 1), (16, .iand, 1), (17, .invokestatic 94, 3), (20, .ireturn, 1)])
def q_15 : pm_D := (⟨"StandUpBook$Page", "rises", "(II)I"⟩, 2, prog_4_method_9_code, 3, (Option.some FieldType.int), [(0, .aload_n 0, 1), (1, .getfield 31, 3), (4, .aload_n 0, 1), (5, .getfield 11, 3), (8, .iload_n 1, 1), (9, .aaload, 1), (10, .getfield 44, 3), (13, .aaload, 1), (14, .aload_n 0, 1), (15, .getfield 11, 3), (18, .iload_n 1, 1), (19, .aaload, 1), (20, .getfield 50, 3), (23, .iload_n 2, 1), (24, .aload_n 0, 1), (25, .getfield 11, 3), (28, .iload_n 1, 1), (29, .aaload, 1), (30, .getfield 59, 3), (33, .invokevirtual 99, 3), (36, .ireturn, 1)])
def q_16 : pm_D := (⟨"StandUpBook$Page", "reaches", "(I)I"⟩, 2, prog_4_method_10_code, 2, (Option.some FieldType.int), [(0, .aload_n 0, 1), (1, .getfield 31, 3), (4, .aload_n 0, 1), (5, .getfield 11, 3), (8, .iload_n 1, 1), (9, .aaload, 1), (10, .getfield 44, 3), (13, .aaload, 1), (14, .aload_n 0, 1), (15, .getfield 11, 3), (18, .iload_n 1, 1), (19, .aaload, 1), (20, .getfield 47, 3), (23, .aload_n 0, 1), (24, .getfield 11, 3), (27, .iload_n 1, 1), (28, .aaload, 1), (29, .getfield 50, 3), (32, .invokevirtual 103, 3), (35, .ireturn, 1)])
def q_17 : pm_D := (⟨"StandUpBook$Page", "looseOnes", "()I"⟩, 2, prog_4_method_11_code, 3, (Option.some FieldType.int), [(0, .iconst 0, 1), (1, .istore_n 1, 1), (2, .iconst 0, 1), (3, .istore_n 2, 1), (4, .iload_n 2, 1), (5, .aload_n 0, 1), (6, .getfield 28, 3), (9, .if_icmp .ge 27, 3), (12, .aload_n 0, 1), (13, .getfield 11, 3), (16, .iload_n 2, 1), (17, .aaload, 1), (18, .invokevirtual 80, 3), (21, .ifCond .ne 9, 3), (24, .iload_n 1, 1), (25, .iconst 1, 1), (26, .iload_n 2, 1), (27, .ishl, 1), (28, .ior, 1), (29, .istore_n 1, 1), (30, .iinc 2 1, 3), (33, .goto (-29), 3), (36, .iload_n 1, 1), (37, .ireturn, 1)])
def q_18 : pm_D := (⟨"StandUpBook$Page", "sticksWith", "(I)Z"⟩, 2, prog_4_method_12_code, 3, (Option.some FieldType.boolean), [(0, .iconst 0, 1), (1, .istore_n 2, 1), (2, .iload_n 2, 1), (3, .aload_n 0, 1), (4, .getfield 28, 3), (7, .if_icmp .ge 34, 3), (10, .aload_n 0, 1), (11, .getfield 11, 3), (14, .iload_n 2, 1), (15, .aaload, 1), (16, .getfield 62, 3), (19, .iload_n 1, 1), (20, .iadd, 1), (21, .aload_n 0, 1), (22, .getfield 11, 3), (25, .iload_n 2, 1), (26, .aaload, 1), (27, .getfield 71, 3), (30, .if_icmp .lt 5, 3), (33, .iconst 1, 1), (34, .ireturn, 1), (35, .iinc 2 1, 3), (38, .goto (-36), 3), (41, .iconst 0, 1), (42, .ireturn, 1)])
def q_19 : pm_D := (⟨"StandUpBook$Page", "wearOfAll", "()I"⟩, 2, prog_4_method_13_code, 3, (Option.some FieldType.int), [(0, .iconst 0, 1), (1, .istore_n 1, 1), (2, .iconst 0, 1), (3, .istore_n 2, 1), (4, .iload_n 2, 1), (5, .aload_n 0, 1), (6, .getfield 28, 3), (9, .if_icmp .ge 21, 3), (12, .iload_n 1, 1), (13, .aload_n 0, 1), (14, .getfield 11, 3), (17, .iload_n 2, 1), (18, .aaload, 1), (19, .getfield 62, 3), (22, .iadd, 1), (23, .istore_n 1, 1), (24, .iinc 2 1, 3), (27, .goto (-23), 3), (30, .iload_n 1, 1), (31, .ireturn, 1)])
def q_20 : pm_D := (⟨"StandUpBook$Page", "measure", "(II)V"⟩, 2, prog_4_method_14_code, 8, (Option.none : Option FieldType), [(0, .iconst 0, 1), (1, .istore_n 3, 1), (2, .iload_n 3, 1), (3, .aload_n 0, 1), (4, .getfield 28, 3), (7, .if_icmp .ge 119, 3), (10, .aload_n 0, 1), (11, .getfield 11, 3), (14, .iload_n 3, 1), (15, .aaload, 1), (16, .astore 4, 2), (18, .aload 4, 2), (20, .getfield 56, 3), (23, .ifCond .lt 25, 3), (26, .aload 4, 2), (28, .getfield 56, 3), (31, .iload_n 3, 1), (32, .if_icmp .ge 16, 3), (35, .aload_n 0, 1), (36, .getfield 17, 3), (39, .aload 4, 2), (41, .getfield 56, 3), (44, .iaload, 1), (45, .goto 4, 3), (48, .iconst 0, 1), (49, .istore 5, 2), (51, .iload_n 2, 1), (52, .iload_n 3, 1), (53, .invokestatic 87, 3), (56, .ifCond .ne 11, 3), (59, .aload 4, 2), (61, .invokevirtual 80, 3), (64, .ifCond .eq 7, 3), (67, .iconst 1, 1), (68, .goto 4, 3), (71, .iconst 0, 1), (72, .istore 6, 2), (74, .iload 6, 2), (76, .ifCond .eq 7, 3), (79, .iconst 0, 1), (80, .goto 27, 3), (83, .aload_n 0, 1), (84, .getfield 31, 3), (87, .aload 4, 2), (89, .getfield 44, 3), (92, .aaload, 1), (93, .aload 4, 2), (95, .getfield 50, 3), (98, .iload_n 1, 1), (99, .aload 4, 2), (101, .getfield 59, 3), (104, .invokevirtual 99, 3), (107, .istore 7, 2), (109, .aload_n 0, 1), (110, .getfield 17, 3), (113, .iload_n 3, 1), (114, .iload 5, 2), (116, .iload 7, 2), (118, .iadd, 1), (119, .iastore, 1), (120, .iinc 3 1, 3), (123, .goto (-121), 3), (126, .return_, 1)])
def q_21 : pm_D := (⟨"StandUpBook$Page", "visibleAt", "(II)I"⟩, 2, prog_4_method_15_code, 5, (Option.some FieldType.int), [(0, .aload_n 0, 1), (1, .iload_n 1, 1), (2, .iload_n 2, 1), (3, .invokevirtual 106, 3), (6, .iconst 0, 1), (7, .istore_n 3, 1), (8, .iconst 0, 1), (9, .istore 4, 2), (11, .iload 4, 2), (13, .aload_n 0, 1), (14, .getfield 28, 3), (17, .if_icmp .ge 36, 3), (20, .aload_n 0, 1), (21, .getfield 17, 3), (24, .iload 4, 2), (26, .iaload, 1), (27, .iconst 1, 1), (28, .if_icmp .lt 19, 3), (31, .aload_n 0, 1), (32, .iload 4, 2), (34, .invokevirtual 110, 3), (37, .ifCond .ne 10, 3), (40, .iload_n 3, 1), (41, .iconst 1, 1), (42, .iload 4, 2), (44, .ishl, 1), (45, .ior, 1), (46, .istore_n 3, 1), (47, .iinc 4 1, 3), (50, .goto (-39), 3), (53, .iload_n 3, 1), (54, .ireturn, 1)])
def q_22 : pm_D := (⟨"StandUpBook$Page", "isHidden", "(I)Z"⟩, 2, prog_4_method_16_code, 3, (Option.some FieldType.boolean), [(0, .iconst 0, 1), (1, .istore_n 2, 1), (2, .iload_n 2, 1), (3, .aload_n 0, 1), (4, .getfield 28, 3), (7, .if_icmp .ge 47, 3), (10, .aload_n 0, 1), (11, .getfield 11, 3), (14, .iload_n 2, 1), (15, .aaload, 1), (16, .getfield 53, 3), (19, .aload_n 0, 1), (20, .getfield 11, 3), (23, .iload_n 1, 1), (24, .aaload, 1), (25, .getfield 53, 3), (28, .if_icmp .ge 20, 3), (31, .aload_n 0, 1), (32, .getfield 17, 3), (35, .iload_n 2, 1), (36, .iaload, 1), (37, .aload_n 0, 1), (38, .getfield 17, 3), (41, .iload_n 1, 1), (42, .iaload, 1), (43, .if_icmp .lt 5, 3), (46, .iconst 1, 1), (47, .ireturn, 1), (48, .iinc 2 1, 3), (51, .goto (-49), 3), (54, .iconst 0, 1), (55, .ireturn, 1)])
def q_23 : pm_D := (⟨"StandUpBook$Page", "visibleMany", "(I)I"⟩, 2, prog_4_method_17_code, 2, (Option.some FieldType.int), [(0, .aload_n 0, 1), (1, .iload_n 1, 1), (2, .iconst 0, 1), (3, .invokevirtual 114, 3), (6, .invokestatic 94, 3), (9, .ireturn, 1)])
def q_24 : pm_D := (⟨"StandUpBook$Page", "highestAt", "(I)I"⟩, 2, prog_4_method_18_code, 4, (Option.some FieldType.int), [(0, .aload_n 0, 1), (1, .iload_n 1, 1), (2, .iconst 0, 1), (3, .invokevirtual 106, 3), (6, .iconst 0, 1), (7, .istore_n 2, 1), (8, .iconst 0, 1), (9, .istore_n 3, 1), (10, .iload_n 3, 1), (11, .aload_n 0, 1), (12, .getfield 28, 3), (15, .if_icmp .ge 20, 3), (18, .iload_n 2, 1), (19, .aload_n 0, 1), (20, .getfield 17, 3), (23, .iload_n 3, 1), (24, .iaload, 1), (25, .invokestatic 117, 3), (28, .istore_n 2, 1), (29, .iinc 3 1, 3), (32, .goto (-22), 3), (35, .iload_n 2, 1), (36, .ireturn, 1)])
def q_25 : pm_D := (⟨"StandUpBook$Page", "reachesInAll", "(I)I"⟩, 2, prog_4_method_19_code, 5, (Option.some FieldType.int), [(0, .iconst 0, 1), (1, .istore_n 2, 1), (2, .iload_n 1, 1), (3, .istore_n 3, 1), (4, .bipush 7, 2), (6, .istore 4, 2), (8, .iload 4, 2), (10, .ifCond .le 39, 3), (13, .iload_n 3, 1), (14, .ifCond .lt 35, 3), (17, .iload_n 3, 1), (18, .aload_n 0, 1), (19, .getfield 28, 3), (22, .if_icmp .ge 27, 3), (25, .iload_n 2, 1), (26, .aload_n 0, 1), (27, .iload_n 3, 1), (28, .invokevirtual 120, 3), (31, .iadd, 1), (32, .istore_n 2, 1), (33, .aload_n 0, 1), (34, .getfield 11, 3), (37, .iload_n 3, 1), (38, .aaload, 1), (39, .getfield 56, 3), (42, .istore_n 3, 1), (43, .iinc 4 (-1), 3), (46, .goto (-38), 3), (49, .iload_n 2, 1), (50, .ireturn, 1)])
def q_26 : pm_D := (⟨"StandUpBook$Page", "sticksOut", "()I"⟩, 2, prog_4_method_20_code, 3, (Option.some FieldType.int), [(0, .iconst 0, 1), (1, .istore_n 1, 1), (2, .iconst 0, 1), (3, .istore_n 2, 1), (4, .iload_n 2, 1), (5, .aload_n 0, 1), (6, .getfield 28, 3), (9, .if_icmp .ge 27, 3), (12, .aload_n 0, 1), (13, .iload_n 2, 1), (14, .invokevirtual 123, 3), (17, .aload_n 0, 1), (18, .getfield 21, 3), (21, .if_icmp .le 9, 3), (24, .iload_n 1, 1), (25, .iconst 1, 1), (26, .iload_n 2, 1), (27, .ishl, 1), (28, .ior, 1), (29, .istore_n 1, 1), (30, .iinc 2 1, 3), (33, .goto (-29), 3), (36, .iload_n 1, 1), (37, .ireturn, 1)])
def q_27 : pm_D := (⟨"StandUpBook$Page", "leastWide", "()I"⟩, 2, prog_4_method_21_code, 3, (Option.some FieldType.int), [(0, .bipush 6, 2), (2, .istore_n 1, 1), (3, .iconst 0, 1), (4, .istore_n 2, 1), (5, .iload_n 2, 1), (6, .aload_n 0, 1), (7, .getfield 28, 3), (10, .if_icmp .ge 19, 3), (13, .iload_n 1, 1), (14, .aload_n 0, 1), (15, .iload_n 2, 1), (16, .invokevirtual 123, 3), (19, .invokestatic 117, 3), (22, .istore_n 1, 1), (23, .iinc 2 1, 3), (26, .goto (-21), 3), (29, .iload_n 1, 1), (30, .bipush 40, 2), (32, .if_icmp .le 7, 3), (35, .iconst (-1), 1), (36, .goto 4, 3), (39, .iload_n 1, 1), (40, .ireturn, 1)])
def q_28 : pm_D := (⟨"StandUpBook$Page", "mixedInto", "(J)J"⟩, 2, prog_4_method_22_code, 6, (Option.some FieldType.long), [(0, .lload_n 1, 1), (1, .lstore_n 3, 1), (2, .iconst 0, 1), (3, .istore 5, 2), (5, .iload 5, 2), (7, .aload_n 0, 1), (8, .getfield 28, 3), (11, .if_icmp .ge 21, 3), (14, .aload_n 0, 1), (15, .getfield 11, 3), (18, .iload 5, 2), (20, .aaload, 1), (21, .lload_n 3, 1), (22, .invokevirtual 126, 3), (25, .lstore_n 3, 1), (26, .iinc 5 1, 3), (29, .goto (-24), 3), (32, .lload_n 3, 1), (33, .lreturn, 1)])
def q_29 : pm_D := (⟨"StandUpBook$Piece", "<init>", "()V"⟩, 3, prog_5_method_1_code, 1, (Option.none : Option FieldType), [(0, .aload_n 0, 1), (1, .invokespecial 1, 3), (4, .return_, 1)])
def q_30 : pm_D := (⟨"StandUpBook$Piece", "isStuck", "()Z"⟩, 3, prog_5_method_2_code, 1, (Option.some FieldType.boolean), [(0, .aload_n 0, 1), (1, .getfield 7, 3), (4, .aload_n 0, 1), (5, .getfield 13, 3), (8, .if_icmp .lt 7, 3), (11, .iconst 1, 1), (12, .goto 4, 3), (15, .iconst 0, 1), (16, .ireturn, 1)])
def q_31 : pm_D := (⟨"StandUpBook$Piece", "copyFrom", "(LStandUpBook$Piece;)V"⟩, 3, prog_5_method_3_code, 2, (Option.none : Option FieldType), [(0, .aload_n 0, 1), (1, .aload_n 1, 1), (2, .getfield 16, 3), (5, .putfield 16, 3), (8, .aload_n 0, 1), (9, .aload_n 1, 1), (10, .getfield 19, 3), (13, .putfield 19, 3), (16, .aload_n 0, 1), (17, .aload_n 1, 1), (18, .getfield 22, 3), (21, .putfield 22, 3), (24, .aload_n 0, 1), (25, .aload_n 1, 1), (26, .getfield 25, 3), (29, .putfield 25, 3), (32, .aload_n 0, 1), (33, .aload_n 1, 1), (34, .getfield 28, 3), (37, .putfield 28, 3), (40, .aload_n 0, 1), (41, .aload_n 1, 1), (42, .getfield 31, 3), (45, .putfield 31, 3), (48, .aload_n 0, 1), (49, .aload_n 1, 1), (50, .getfield 7, 3), (53, .putfield 7, 3), (56, .aload_n 0, 1), (57, .aload_n 1, 1), (58, .getfield 13, 3), (61, .putfield 13, 3), (64, .return_, 1)])
def q_32 : pm_D := (⟨"StandUpBook$Piece", "mixedInto", "(J)J"⟩, 3, prog_5_method_4_code, 5, (Option.some FieldType.long), [(0, .lload_n 1, 1), (1, .aload_n 0, 1), (2, .getfield 16, 3), (5, .i2l, 1), (6, .invokestatic 34, 3), (9, .aload_n 0, 1), (10, .getfield 19, 3), (13, .i2l, 1), (14, .invokestatic 34, 3), (17, .aload_n 0, 1), (18, .getfield 22, 3), (21, .i2l, 1), (22, .invokestatic 34, 3), (25, .lstore_n 3, 1), (26, .lload_n 3, 1), (27, .aload_n 0, 1), (28, .getfield 25, 3), (31, .i2l, 1), (32, .invokestatic 34, 3), (35, .aload_n 0, 1), (36, .getfield 28, 3), (39, .i2l, 1), (40, .invokestatic 34, 3), (43, .lstore_n 3, 1), (44, .lload_n 3, 1), (45, .aload_n 0, 1), (46, .getfield 31, 3), (49, .i2l, 1), (50, .invokestatic 34, 3), (53, .aload_n 0, 1), (54, .getfield 7, 3), (57, .i2l, 1), (58, .invokestatic 34, 3), (61, .lreturn, 1)])
def q_33 : pm_D := (⟨"StandUpBook$Spread", "<init>", "([LStandUpBook$Vee;)V"⟩, 4, prog_6_method_1_code, 3, (Option.none : Option FieldType), [(0, .aload_n 0, 1), (1, .invokespecial 3, 3), (4, .aload_n 0, 1), (5, .bipush 6, 2), (7, .anewarray 9, 3), (10, .putfield 11, 3), (13, .aload_n 0, 1), (14, .bipush 6, 2), (16, .iconst 5, 1), (17, .multianewarray 17 2, 4), (21, .putfield 19, 3), (24, .aload_n 0, 1), (25, .bipush 6, 2), (27, .iconst 2, 1), (28, .multianewarray 17 2, 4), (32, .putfield 22, 3), (35, .aload_n 0, 1), (36, .iconst 0, 1), (37, .putfield 25, 3), (40, .aload_n 0, 1), (41, .iconst 0, 1), (42, .putfield 29, 3), (45, .aload_n 0, 1), (46, .iconst 0, 1), (47, .putfield 32, 3), (50, .aload_n 0, 1), (51, .new 9, 3), (54, .dup, 1), (55, .aload_n 1, 1), (56, .invokespecial 35, 3), (59, .putfield 38, 3), (62, .iconst 0, 1), (63, .istore_n 2, 1), (64, .iload_n 2, 1), (65, .bipush 6, 2), (67, .if_icmp .ge 23, 3), (70, .aload_n 0, 1), (71, .getfield 11, 3), (74, .iload_n 2, 1), (75, .new 9, 3), (78, .dup, 1), (79, .aload_n 1, 1), (80, .invokespecial 35, 3), (83, .aastore, 1), (84, .iinc 2 1, 3), (87, .goto (-23), 3), (90, .return_, 1)])
def q_34 : pm_D := (⟨"StandUpBook$Spread", "startAnew", "(I)V"⟩, 4, prog_6_method_2_code, 2, (Option.none : Option FieldType), [(0, .aload_n 0, 1), (1, .getfield 38, 3), (4, .iload_n 1, 1), (5, .invokevirtual 42, 3), (8, .aload_n 0, 1), (9, .iconst 0, 1), (10, .putfield 25, 3), (13, .aload_n 0, 1), (14, .iconst 0, 1), (15, .putfield 29, 3), (18, .aload_n 0, 1), (19, .iconst 0, 1), (20, .putfield 32, 3), (23, .return_, 1)])
def q_35 : pm_D := (⟨"StandUpBook$Spread", "remember", "()V"⟩, 4, prog_6_method_3_code, 1, (Option.none : Option FieldType), [(0, .aload_n 0, 1), (1, .getfield 25, 3), (4, .bipush 6, 2), (6, .if_icmp .lt 7, 3), (9, .aload_n 0, 1), (10, .invokevirtual 46, 3), (13, .aload_n 0, 1), (14, .getfield 11, 3), (17, .aload_n 0, 1), (18, .getfield 25, 3), (21, .aaload, 1), (22, .aload_n 0, 1), (23, .getfield 38, 3), (26, .invokevirtual 49, 3), (29, .aload_n 0, 1), (30, .dup, 1), (31, .getfield 25, 3), (34, .iconst 1, 1), (35, .iadd, 1), (36, .putfield 25, 3), (39, .return_, 1)])
def q_36 : pm_D := (⟨"StandUpBook$Spread", "dropOldest", "()V"⟩, 4, prog_6_method_4_code, 3, (Option.none : Option FieldType), [(0, .aload_n 0, 1), (1, .getfield 11, 3), (4, .iconst 0, 1), (5, .aaload, 1), (6, .astore_n 1, 1), (7, .iconst 1, 1), (8, .istore_n 2, 1), (9, .iload_n 2, 1), (10, .bipush 6, 2), (12, .if_icmp .ge 23, 3), (15, .aload_n 0, 1), (16, .getfield 11, 3), (19, .iload_n 2, 1), (20, .iconst 1, 1), (21, .isub, 1), (22, .aload_n 0, 1), (23, .getfield 11, 3), (26, .iload_n 2, 1), (27, .aaload, 1), (28, .aastore, 1), (29, .iinc 2 1, 3), (32, .goto (-23), 3), (35, .aload_n 0, 1), (36, .getfield 11, 3), (39, .iconst 5, 1), (40, .aload_n 1, 1), (41, .aastore, 1), (42, .aload_n 0, 1), (43, .iconst 5, 1), (44, .putfield 25, 3), (47, .return_, 1)])
def q_37 : pm_D := (⟨"StandUpBook$Spread", "stepBack", "()V"⟩, 4, prog_6_method_5_code, 1, (Option.none : Option FieldType), [(0, .aload_n 0, 1), (1, .getfield 25, 3), (4, .ifCond .le 29, 3), (7, .aload_n 0, 1), (8, .dup, 1), (9, .getfield 25, 3), (12, .iconst 1, 1), (13, .isub, 1), (14, .putfield 25, 3), (17, .aload_n 0, 1), (18, .getfield 38, 3), (21, .aload_n 0, 1), (22, .getfield 11, 3), (25, .aload_n 0, 1), (26, .getfield 25, 3), (29, .aaload, 1), (30, .invokevirtual 49, 3), (33, .return_, 1)])
def q_38 : pm_D := (⟨"StandUpBook$Spread", "copyFrom", "(LStandUpBook$Spread;)V"⟩, 4, prog_6_method_6_code, 3, (Option.none : Option FieldType), [(0, .aload_n 0, 1), (1, .getfield 38, 3), (4, .aload_n 1, 1), (5, .getfield 38, 3), (8, .invokevirtual 49, 3), (11, .aload_n 0, 1), (12, .aload_n 1, 1), (13, .getfield 25, 3), (16, .putfield 25, 3), (19, .iconst 0, 1), (20, .istore_n 2, 1), (21, .iload_n 2, 1), (22, .aload_n 0, 1), (23, .getfield 25, 3), (26, .if_icmp .ge 24, 3), (29, .aload_n 0, 1), (30, .getfield 11, 3), (33, .iload_n 2, 1), (34, .aaload, 1), (35, .aload_n 1, 1), (36, .getfield 11, 3), (39, .iload_n 2, 1), (40, .aaload, 1), (41, .invokevirtual 49, 3), (44, .iinc 2 1, 3), (47, .goto (-26), 3), (50, .aload_n 0, 1), (51, .aload_n 1, 1), (52, .getfield 29, 3), (55, .putfield 29, 3), (58, .iconst 0, 1), (59, .istore_n 2, 1), (60, .iload_n 2, 1), (61, .aload_n 0, 1), (62, .getfield 29, 3), (65, .if_icmp .ge 27, 3), (68, .aload_n 1, 1), (69, .getfield 19, 3), (72, .iload_n 2, 1), (73, .aaload, 1), (74, .iconst 0, 1), (75, .aload_n 0, 1), (76, .getfield 19, 3), (79, .iload_n 2, 1), (80, .aaload, 1), (81, .iconst 0, 1), (82, .iconst 5, 1), (83, .invokestatic 53, 3), (86, .iinc 2 1, 3), (89, .goto (-29), 3), (92, .aload_n 0, 1), (93, .aload_n 1, 1), (94, .getfield 32, 3), (97, .putfield 32, 3), (100, .iconst 0, 1), (101, .istore_n 2, 1), (102, .iload_n 2, 1), (103, .aload_n 0, 1), (104, .getfield 32, 3), (107, .if_icmp .ge 27, 3), (110, .aload_n 1, 1), (111, .getfield 22, 3), (114, .iload_n 2, 1), (115, .aaload, 1), (116, .iconst 0, 1), (117, .aload_n 0, 1), (118, .getfield 22, 3), (121, .iload_n 2, 1), (122, .aaload, 1), (123, .iconst 0, 1), (124, .iconst 2, 1), (125, .invokestatic 53, 3), (128, .iinc 2 1, 3), (131, .goto (-29), 3), (134, .return_, 1)])
def q_39 : pm_D := (⟨"StandUpBook$Stage", "<init>", "()V"⟩, 5, prog_7_method_1_code, 1, (Option.none : Option FieldType), [(0, .aload_n 0, 1), (1, .invokespecial 1, 3), (4, .return_, 1)])
def q_40 : pm_D := (⟨"StandUpBook$Stage", "riseOf", "(III)I"⟩, 5, prog_7_method_2_code, 4, (Option.some FieldType.int), [(0, .aload_n 0, 1), (1, .iload_n 1, 1), (2, .iload_n 2, 1), (3, .iload_n 3, 1), (4, .invokespecial 7, 3), (7, .iconst 1, 1), (8, .iadd, 1), (9, .iconst 2, 1), (10, .idiv, 1), (11, .ireturn, 1)])
def q_41 : pm_D := (⟨"StandUpBook$Stage", "bearing", "()I"⟩, 5, prog_7_method_3_code, 1, (Option.some FieldType.int), [(0, .iconst 2, 1), (1, .aload_n 0, 1), (2, .invokespecial 11, 3), (5, .imul, 1), (6, .ireturn, 1)])
def q_42 : pm_D := (⟨"StandUpBook$Tent", "<init>", "()V"⟩, 6, prog_8_method_1_code, 1, (Option.none : Option FieldType), [(0, .aload_n 0, 1), (1, .invokespecial 3, 3), (4, .return_, 1)])
def q_43 : pm_D := (⟨"StandUpBook$Tent", "riseOf", "(III)I"⟩, 6, prog_8_method_2_code, 5, (Option.some FieldType.int), [(0, .aload_n 0, 1), (1, .iload_n 1, 1), (2, .iload_n 2, 1), (3, .iload_n 3, 1), (4, .invokespecial 9, 3), (7, .istore 4, 2), (9, .iload_n 2, 1), (10, .bipush 6, 2), (12, .if_icmp .lt 10, 3), (15, .iload 4, 2), (17, .iconst 1, 1), (18, .iadd, 1), (19, .goto 5, 3), (22, .iload 4, 2), (24, .ireturn, 1)])
def q_44 : pm_D := (⟨"StandUpBook$Text", "<init>", "()V"⟩, 7, prog_9_method_1_code, 1, (Option.none : Option FieldType), [(0, .aload_n 0, 1), (1, .invokespecial 3, 3), (4, .aload_n 0, 1), (5, .sipush 150, 3), (8, .newarray .byte, 2), (10, .putfield 9, 3), (13, .aload_n 0, 1), (14, .iconst 0, 1), (15, .putfield 15, 3), (18, .aload_n 0, 1), (19, .iconst 0, 1), (20, .putfield 19, 3), (23, .aload_n 0, 1), (24, .iconst 0, 1), (25, .putfield 22, 3), (28, .aload_n 0, 1), (29, .iconst 0, 1), (30, .putfield 25, 3), (33, .aload_n 0, 1), (34, .iconst 0, 1), (35, .putfield 28, 3), (38, .aload_n 0, 1), (39, .iconst (-1), 1), (40, .putfield 31, 3), (43, .return_, 1)])
def q_45 : pm_D := (⟨"StandUpBook$Text", "append", "(I)V"⟩, 7, prog_9_method_2_code, 2, (Option.none : Option FieldType), [(0, .aload_n 0, 1), (1, .getfield 15, 3), (4, .sipush 150, 3), (7, .if_icmp .ge 24, 3), (10, .aload_n 0, 1), (11, .getfield 9, 3), (14, .aload_n 0, 1), (15, .getfield 15, 3), (18, .iload_n 1, 1), (19, .i2b, 1), (20, .bastore, 1), (21, .aload_n 0, 1), (22, .dup, 1), (23, .getfield 15, 3), (26, .iconst 1, 1), (27, .iadd, 1), (28, .putfield 15, 3), (31, .return_, 1)])
def q_46 : pm_D := (⟨"StandUpBook$Text", "tellTo", "(LStandUpBook$Page;)I"⟩, 7, prog_9_method_3_code, 4, (Option.some FieldType.int), [(0, .aload_n 0, 1), (1, .iconst 0, 1), (2, .putfield 25, 3), (5, .aload_n 0, 1), (6, .iconst (-1), 1), (7, .putfield 31, 3), (10, .aload_n 0, 1), (11, .invokevirtual 34, 3), (14, .aload_n 0, 1), (15, .aload_n 1, 1), (16, .invokevirtual 37, 3), (19, .iconst 1, 1), (20, .istore_n 2, 1), (21, .aload_n 0, 1), (22, .getfield 15, 3), (25, .istore_n 3, 1), (26, .iload_n 3, 1), (27, .ifCond .le 119, 3), (30, .aload_n 0, 1), (31, .getfield 31, 3), (34, .iconst (-1), 1), (35, .if_icmp .ne 111, 3), (38, .aload_n 0, 1), (39, .getfield 19, 3), (42, .ifCond .eq 104, 3), (45, .aload_n 0, 1), (46, .ldc 41, 2), (48, .invokevirtual 43, 3), (51, .ifCond .eq 19, 3), (54, .aload_n 1, 1), (55, .invokevirtual 47, 3), (58, .ifCond .ne 12, 3), (61, .aload_n 0, 1), (62, .aload_n 1, 1), (63, .iconst 0, 1), (64, .invokevirtual 53, 3), (67, .goto 70, 3), (70, .aload_n 0, 1), (71, .ldc 57, 2), (73, .invokevirtual 43, 3), (76, .ifCond .eq 19, 3), (79, .aload_n 1, 1), (80, .invokevirtual 47, 3), (83, .ifCond .ne 12, 3), (86, .aload_n 0, 1), (87, .aload_n 1, 1), (88, .iconst 1, 1), (89, .invokevirtual 53, 3), (92, .goto 45, 3), (95, .aload_n 0, 1), (96, .ldc 59, 2), (98, .invokevirtual 43, 3), (101, .ifCond .eq 11, 3), (104, .aload_n 0, 1), (105, .aload_n 1, 1), (106, .invokevirtual 61, 3), (109, .goto 28, 3), (112, .aload_n 0, 1), (113, .ldc 64, 2), (115, .invokevirtual 43, 3), (118, .ifCond .eq 11, 3), (121, .aload_n 0, 1), (122, .aload_n 1, 1), (123, .invokevirtual 66, 3), (126, .goto 11, 3), (129, .aload_n 0, 1), (130, .aload_n 0, 1), (131, .getfield 22, 3), (134, .putfield 31, 3), (137, .iinc 2 1, 3), (140, .iinc 3 (-1), 3), (143, .goto (-117), 3), (146, .aload_n 0, 1), (147, .getfield 31, 3), (150, .iconst (-1), 1), (151, .if_icmp .ne 7, 3), (154, .iload_n 2, 1), (155, .goto 10, 3), (158, .bipush (-10), 2), (160, .aload_n 0, 1), (161, .getfield 31, 3), (164, .isub, 1), (165, .ireturn, 1)])
def q_47 : pm_D := (⟨"StandUpBook$Text", "tellBook", "(LStandUpBook$Page;)V"⟩, 7, prog_9_method_4_code, 3, (Option.none : Option FieldType), [(0, .aload_n 0, 1), (1, .ldc 69, 2), (3, .invokevirtual 43, 3), (6, .ifCond .ne 12, 3), (9, .aload_n 0, 1), (10, .aload_n 0, 1), (11, .getfield 22, 3), (14, .putfield 31, 3), (17, .return_, 1), (18, .aload_n 0, 1), (19, .invokevirtual 34, 3), (22, .aload_n 0, 1), (23, .bipush 6, 2), (25, .bipush 40, 2), (27, .invokevirtual 71, 3), (30, .istore_n 2, 1), (31, .aload_n 0, 1), (32, .invokevirtual 75, 3), (35, .aload_n 1, 1), (36, .iload_n 2, 1), (37, .invokevirtual 78, 3), (40, .return_, 1)])
def q_48 : pm_D := (⟨"StandUpBook$Text", "tellPiece", "(LStandUpBook$Page;Z)V"⟩, 7, prog_9_method_5_code, 8, (Option.none : Option FieldType), [(0, .aload_n 0, 1), (1, .invokevirtual 34, 3), (4, .aload_n 0, 1), (5, .iconst 0, 1), (6, .iconst 5, 1), (7, .invokevirtual 71, 3), (10, .istore_n 3, 1), (11, .aload_n 0, 1), (12, .iconst 1, 1), (13, .bipush 9, 2), (15, .invokevirtual 71, 3), (18, .istore 4, 2), (20, .aload_n 0, 1), (21, .iconst 1, 1), (22, .bipush 9, 2), (24, .invokevirtual 71, 3), (27, .istore 5, 2), (29, .aload_n 0, 1), (30, .iconst 0, 1), (31, .bipush 9, 2), (33, .invokevirtual 71, 3), (36, .istore 6, 2), (38, .iload_n 2, 1), (39, .ifCond .eq 17, 3), (42, .aload_n 0, 1), (43, .iconst 0, 1), (44, .aload_n 1, 1), (45, .getfield 82, 3), (48, .iconst 1, 1), (49, .isub, 1), (50, .invokevirtual 71, 3), (53, .goto 4, 3), (56, .iconst (-1), 1), (57, .istore 7, 2), (59, .aload_n 0, 1), (60, .invokevirtual 75, 3), (63, .aload_n 0, 1), (64, .getfield 31, 3), (67, .iconst (-1), 1), (68, .if_icmp .ne 17, 3), (71, .aload_n 1, 1), (72, .iload_n 3, 1), (73, .iload 4, 2), (75, .iload 5, 2), (77, .iload 6, 2), (79, .iload 7, 2), (81, .invokevirtual 85, 3), (84, .pop, 1), (85, .return_, 1)])
def q_49 : pm_D := (⟨"StandUpBook$Text", "tellOpen", "(LStandUpBook$Page;)V"⟩, 7, prog_9_method_6_code, 3, (Option.none : Option FieldType), [(0, .aload_n 0, 1), (1, .invokevirtual 34, 3), (4, .aload_n 0, 1), (5, .iconst 0, 1), (6, .bipush 12, 2), (8, .invokevirtual 71, 3), (11, .istore_n 2, 1), (12, .aload_n 0, 1), (13, .invokevirtual 75, 3), (16, .aload_n 0, 1), (17, .getfield 31, 3), (20, .iconst (-1), 1), (21, .if_icmp .ne 8, 3), (24, .aload_n 1, 1), (25, .iload_n 2, 1), (26, .invokevirtual 89, 3), (29, .return_, 1)])
def q_50 : pm_D := (⟨"StandUpBook$Text", "tellPull", "(LStandUpBook$Page;)V"⟩, 7, prog_9_method_7_code, 4, (Option.none : Option FieldType), [(0, .aload_n 0, 1), (1, .invokevirtual 34, 3), (4, .aload_n 0, 1), (5, .iconst 0, 1), (6, .aload_n 1, 1), (7, .getfield 82, 3), (10, .iconst 1, 1), (11, .isub, 1), (12, .invokevirtual 71, 3), (15, .istore_n 2, 1), (16, .aload_n 0, 1), (17, .iconst 0, 1), (18, .iconst 3, 1), (19, .invokevirtual 71, 3), (22, .istore_n 3, 1), (23, .aload_n 0, 1), (24, .invokevirtual 75, 3), (27, .aload_n 0, 1), (28, .getfield 31, 3), (31, .iconst (-1), 1), (32, .if_icmp .ne 21, 3), (35, .iload_n 2, 1), (36, .aload_n 1, 1), (37, .getfield 82, 3), (40, .if_icmp .ge 13, 3), (43, .aload_n 1, 1), (44, .getfield 92, 3), (47, .iload_n 2, 1), (48, .aaload, 1), (49, .iload_n 3, 1), (50, .putfield 96, 3), (53, .return_, 1)])
def q_51 : pm_D := (⟨"StandUpBook$Text", "number", "(II)I"⟩, 7, prog_9_method_8_code, 4, (Option.some FieldType.int), [(0, .aload_n 0, 1), (1, .getfield 31, 3), (4, .iconst (-1), 1), (5, .if_icmp .eq 5, 3), (8, .iload_n 1, 1), (9, .ireturn, 1), (10, .aload_n 0, 1), (11, .getfield 19, 3), (14, .iconst 2, 1), (15, .if_icmp .ne 19, 3), (18, .aload_n 0, 1), (19, .getfield 28, 3), (22, .iload_n 1, 1), (23, .if_icmp .lt 11, 3), (26, .aload_n 0, 1), (27, .getfield 28, 3), (30, .iload_n 2, 1), (31, .if_icmp .le 13, 3), (34, .aload_n 0, 1), (35, .aload_n 0, 1), (36, .getfield 22, 3), (39, .putfield 31, 3), (42, .iload_n 1, 1), (43, .ireturn, 1), (44, .aload_n 0, 1), (45, .getfield 28, 3), (48, .istore_n 3, 1), (49, .aload_n 0, 1), (50, .invokevirtual 34, 3), (53, .iload_n 3, 1), (54, .ireturn, 1)])
def q_52 : pm_D := (⟨"StandUpBook$Text", "endItem", "()V"⟩, 7, prog_9_method_9_code, 1, (Option.none : Option FieldType), [(0, .aload_n 0, 1), (1, .getfield 31, 3), (4, .iconst (-1), 1), (5, .if_icmp .eq 4, 3), (8, .return_, 1), (9, .aload_n 0, 1), (10, .getfield 19, 3), (13, .iconst 3, 1), (14, .if_icmp .ne 10, 3), (17, .aload_n 0, 1), (18, .invokevirtual 34, 3), (21, .goto 11, 3), (24, .aload_n 0, 1), (25, .aload_n 0, 1), (26, .getfield 22, 3), (29, .putfield 31, 3), (32, .return_, 1)])
def q_53 : pm_D := (⟨"StandUpBook$Text", "isWord", "(Ljava/lang/String;)Z"⟩, 7, prog_9_method_10_code, 3, (Option.some FieldType.boolean), [(0, .aload_n 0, 1), (1, .getfield 19, 3), (4, .iconst 1, 1), (5, .if_icmp .ne 19, 3), (8, .aload_n 0, 1), (9, .getfield 25, 3), (12, .aload_n 0, 1), (13, .getfield 22, 3), (16, .isub, 1), (17, .aload_n 1, 1), (18, .invokevirtual 101, 3), (21, .if_icmp .eq 5, 3), (24, .iconst 0, 1), (25, .ireturn, 1), (26, .iconst 0, 1), (27, .istore_n 2, 1), (28, .iload_n 2, 1), (29, .aload_n 1, 1), (30, .invokevirtual 101, 3), (33, .if_icmp .ge 30, 3), (36, .aload_n 0, 1), (37, .getfield 9, 3), (40, .aload_n 0, 1), (41, .getfield 22, 3), (44, .iload_n 2, 1), (45, .iadd, 1), (46, .baload, 1), (47, .aload_n 1, 1), (48, .iload_n 2, 1), (49, .invokevirtual 106, 3), (52, .if_icmp .eq 5, 3), (55, .iconst 0, 1), (56, .ireturn, 1), (57, .iinc 2 1, 3), (60, .goto (-32), 3), (63, .iconst 1, 1), (64, .ireturn, 1)])
def q_54 : pm_D := (⟨"StandUpBook$Text", "step", "()V"⟩, 7, prog_9_method_11_code, 1, (Option.none : Option FieldType), [(0, .aload_n 0, 1), (1, .aload_n 0, 1), (2, .getfield 25, 3), (5, .putfield 22, 3), (8, .aload_n 0, 1), (9, .getfield 22, 3), (12, .aload_n 0, 1), (13, .getfield 15, 3), (16, .if_icmp .ge 30, 3), (19, .aload_n 0, 1), (20, .getfield 9, 3), (23, .aload_n 0, 1), (24, .getfield 22, 3), (27, .baload, 1), (28, .bipush 32, 2), (30, .if_icmp .ne 16, 3), (33, .aload_n 0, 1), (34, .dup, 1), (35, .getfield 22, 3), (38, .iconst 1, 1), (39, .iadd, 1), (40, .putfield 22, 3), (43, .goto (-35), 3), (46, .aload_n 0, 1), (47, .aload_n 0, 1), (48, .getfield 22, 3), (51, .putfield 25, 3), (54, .aload_n 0, 1), (55, .getfield 22, 3), (58, .aload_n 0, 1), (59, .getfield 15, 3), (62, .if_icmp .lt 11, 3), (65, .aload_n 0, 1), (66, .iconst 0, 1), (67, .putfield 19, 3), (70, .goto 105, 3), (73, .aload_n 0, 1), (74, .aload_n 0, 1), (75, .getfield 22, 3), (78, .invokevirtual 110, 3), (81, .ifCond .eq 43, 3), (84, .aload_n 0, 1), (85, .iconst 1, 1), (86, .putfield 19, 3), (89, .aload_n 0, 1), (90, .getfield 25, 3), (93, .aload_n 0, 1), (94, .getfield 15, 3), (97, .if_icmp .ge 78, 3), (100, .aload_n 0, 1), (101, .aload_n 0, 1), (102, .getfield 25, 3), (105, .invokevirtual 110, 3), (108, .ifCond .eq 67, 3), (111, .aload_n 0, 1), (112, .dup, 1), (113, .getfield 25, 3), (116, .iconst 1, 1), (117, .iadd, 1), (118, .putfield 25, 3), (121, .goto (-32), 3), (124, .aload_n 0, 1), (125, .aload_n 0, 1), (126, .getfield 22, 3), (129, .invokevirtual 114, 3), (132, .ifCond .eq 10, 3), (135, .aload_n 0, 1), (136, .invokevirtual 117, 3), (139, .goto 36, 3), (142, .aload_n 0, 1), (143, .aload_n 0, 1), (144, .getfield 9, 3), (147, .aload_n 0, 1), (148, .getfield 22, 3), (151, .baload, 1), (152, .bipush 59, 2), (154, .if_icmp .ne 7, 3), (157, .iconst 3, 1), (158, .goto 4, 3), (161, .iconst 4, 1), (162, .putfield 19, 3), (165, .aload_n 0, 1), (166, .dup, 1), (167, .getfield 25, 3), (170, .iconst 1, 1), (171, .iadd, 1), (172, .putfield 25, 3), (175, .return_, 1)])
def q_55 : pm_D := (⟨"StandUpBook$Text", "stepOverFigures", "()V"⟩, 7, prog_9_method_12_code, 1, (Option.none : Option FieldType), [(0, .aload_n 0, 1), (1, .iconst 0, 1), (2, .putfield 28, 3), (5, .aload_n 0, 1), (6, .getfield 25, 3), (9, .aload_n 0, 1), (10, .getfield 15, 3), (13, .if_icmp .ge 54, 3), (16, .aload_n 0, 1), (17, .aload_n 0, 1), (18, .getfield 25, 3), (21, .invokevirtual 114, 3), (24, .ifCond .eq 43, 3), (27, .aload_n 0, 1), (28, .aload_n 0, 1), (29, .getfield 28, 3), (32, .bipush 10, 2), (34, .irem, 1), (35, .bipush 10, 2), (37, .imul, 1), (38, .aload_n 0, 1), (39, .getfield 9, 3), (42, .aload_n 0, 1), (43, .getfield 25, 3), (46, .baload, 1), (47, .iadd, 1), (48, .bipush 48, 2), (50, .isub, 1), (51, .putfield 28, 3), (54, .aload_n 0, 1), (55, .dup, 1), (56, .getfield 25, 3), (59, .iconst 1, 1), (60, .iadd, 1), (61, .putfield 25, 3), (64, .goto (-59), 3), (67, .aload_n 0, 1), (68, .aload_n 0, 1), (69, .getfield 25, 3), (72, .aload_n 0, 1), (73, .getfield 22, 3), (76, .isub, 1), (77, .iconst 2, 1), (78, .if_icmp .gt 7, 3), (81, .iconst 2, 1), (82, .goto 4, 3), (85, .iconst 4, 1), (86, .putfield 19, 3), (89, .return_, 1)])
def q_56 : pm_D := (⟨"StandUpBook$Text", "isLetter", "(I)Z"⟩, 7, prog_9_method_13_code, 2, (Option.some FieldType.boolean), [(0, .aload_n 0, 1), (1, .getfield 9, 3), (4, .iload_n 1, 1), (5, .baload, 1), (6, .bipush 97, 2), (8, .if_icmp .lt 18, 3), (11, .aload_n 0, 1), (12, .getfield 9, 3), (15, .iload_n 1, 1), (16, .baload, 1), (17, .bipush 122, 2), (19, .if_icmp .gt 7, 3), (22, .iconst 1, 1), (23, .goto 4, 3), (26, .iconst 0, 1), (27, .ireturn, 1)])
def q_57 : pm_D := (⟨"StandUpBook$Text", "isFigure", "(I)Z"⟩, 7, prog_9_method_14_code, 2, (Option.some FieldType.boolean), [(0, .aload_n 0, 1), (1, .getfield 9, 3), (4, .iload_n 1, 1), (5, .baload, 1), (6, .bipush 48, 2), (8, .if_icmp .lt 18, 3), (11, .aload_n 0, 1), (12, .getfield 9, 3), (15, .iload_n 1, 1), (16, .baload, 1), (17, .bipush 57, 2), (19, .if_icmp .gt 7, 3), (22, .iconst 1, 1), (23, .goto 4, 3), (26, .iconst 0, 1), (27, .ireturn, 1)])
def q_58 : pm_D := (⟨"StandUpBook$Vee", "<init>", "()V"⟩, 8, prog_10_method_1_code, 1, (Option.none : Option FieldType), [(0, .aload_n 0, 1), (1, .invokespecial 3, 3), (4, .return_, 1)])
def q_59 : pm_D := (⟨"StandUpBook$Vee", "riseOf", "(III)I"⟩, 8, prog_10_method_2_code, 4, (Option.some FieldType.int), [(0, .iload_n 1, 1), (1, .iload_n 2, 1), (2, .imul, 1), (3, .bipush 12, 2), (5, .idiv, 1), (6, .ireturn, 1)])
def q_60 : pm_D := (⟨"StandUpBook$Vee", "reachOf", "(II)I"⟩, 8, prog_10_method_3_code, 3, (Option.some FieldType.int), [(0, .iload_n 2, 1), (1, .iload_n 1, 1), (2, .iadd, 1), (3, .ireturn, 1)])
def q_61 : pm_D := (⟨"StandUpBook$Vee", "bearing", "()I"⟩, 8, prog_10_method_4_code, 1, (Option.some FieldType.int), [(0, .sipush 150, 3), (3, .ireturn, 1)])
def q_62 : pm_D := (⟨"StandUpBook$Walk", "<init>", "()V"⟩, 9, prog_11_method_1_code, 1, (Option.none : Option FieldType), [(0, .aload_n 0, 1), (1, .invokespecial 3, 3), (4, .aload_n 0, 1), (5, .bipush 13, 2), (7, .newarray .int, 2), (9, .putfield 9, 3), (12, .aload_n 0, 1), (13, .iconst 0, 1), (14, .putfield 15, 3), (17, .return_, 1)])
def q_63 : pm_D := (⟨"StandUpBook$Walk", "covers", "(II)Z"⟩, 9, prog_11_method_2_code, 5, (Option.some FieldType.boolean), [(0, .iconst 0, 1), (1, .istore_n 3, 1), (2, .iconst 0, 1), (3, .iload_n 1, 1), (4, .invokestatic 19, 3), (7, .istore 4, 2), (9, .iload 4, 2), (11, .iload_n 2, 1), (12, .if_icmp .gt 26, 3), (15, .iload 4, 2), (17, .bipush 12, 2), (19, .if_icmp .gt 19, 3), (22, .iload_n 3, 1), (23, .aload_n 0, 1), (24, .getfield 9, 3), (27, .iload 4, 2), (29, .iaload, 1), (30, .ior, 1), (31, .istore_n 3, 1), (32, .iinc 4 1, 3), (35, .goto (-26), 3), (38, .aload_n 0, 1), (39, .getfield 15, 3), (42, .iload_n 3, 1), (43, .iconst (-1), 1), (44, .ixor, 1), (45, .iand, 1), (46, .ifCond .ne 7, 3), (49, .iconst 1, 1), (50, .goto 4, 3), (53, .iconst 0, 1), (54, .ireturn, 1)])
def q_64 : pm_D := (⟨"StandUpBook$Walk", "stepsLeft", "(III)I"⟩, 9, prog_11_method_3_code, 9, (Option.some FieldType.int), [(0, .sipush 1000, 3), (3, .istore 4, 2), (5, .iload_n 2, 1), (6, .istore 5, 2), (8, .iload 5, 2), (10, .ifCond .lt 88, 3), (13, .iload_n 3, 1), (14, .istore 6, 2), (16, .iload 6, 2), (18, .bipush 12, 2), (20, .if_icmp .gt 72, 3), (23, .aload_n 0, 1), (24, .iload 5, 2), (26, .iload 6, 2), (28, .invokevirtual 25, 3), (31, .ifCond .eq 55, 3), (34, .iload 5, 2), (36, .iload_n 2, 1), (37, .if_icmp .ge 10, 3), (40, .iload_n 1, 1), (41, .iload 5, 2), (43, .isub, 1), (44, .goto 4, 3), (47, .iconst 0, 1), (48, .istore 7, 2), (50, .iload 6, 2), (52, .iload_n 3, 1), (53, .if_icmp .le 10, 3), (56, .iload 6, 2), (58, .iload_n 1, 1), (59, .isub, 1), (60, .goto 4, 3), (63, .iconst 0, 1), (64, .istore 8, 2), (66, .iload 4, 2), (68, .iload 7, 2), (70, .iload 8, 2), (72, .iadd, 1), (73, .iload 7, 2), (75, .iload 8, 2), (77, .invokestatic 29, 3), (80, .iadd, 1), (81, .invokestatic 29, 3), (84, .istore 4, 2), (86, .iinc 6 1, 3), (89, .goto (-73), 3), (92, .iinc 5 (-1), 3), (95, .goto (-87), 3), (98, .iload 4, 2), (100, .ireturn, 1)])
def q_65 : pm_D := (⟨"StandUpBook$Walk", "openingAfter", "(II)I"⟩, 9, prog_11_method_4_code, 9, (Option.some FieldType.int), [(0, .iload_n 1, 1), (1, .istore_n 3, 1), (2, .iload_n 1, 1), (3, .istore 4, 2), (5, .iload_n 1, 1), (6, .istore 5, 2), (8, .aload_n 0, 1), (9, .iload_n 3, 1), (10, .iload 4, 2), (12, .iload 5, 2), (14, .invokevirtual 32, 3), (17, .istore 6, 2), (19, .iconst 0, 1), (20, .istore 7, 2), (22, .iload 7, 2), (24, .iload_n 2, 1), (25, .if_icmp .ge 81, 3), (28, .iload 6, 2), (30, .ifCond .le 76, 3), (33, .iinc 6 (-1), 3), (36, .iload_n 3, 1), (37, .ifCond .le 29, 3), (40, .aload_n 0, 1), (41, .iload_n 3, 1), (42, .iconst 1, 1), (43, .isub, 1), (44, .iload 4, 2), (46, .iload_n 3, 1), (47, .iconst 1, 1), (48, .isub, 1), (49, .invokestatic 29, 3), (52, .iload 5, 2), (54, .invokevirtual 32, 3), (57, .iload 6, 2), (59, .if_icmp .ne 7, 3), (62, .iconst 1, 1), (63, .goto 4, 3), (66, .iconst 0, 1), (67, .istore 8, 2), (69, .iload 8, 2), (71, .ifCond .eq 9, 3), (74, .iload_n 3, 1), (75, .iconst 1, 1), (76, .isub, 1), (77, .goto 6, 3), (80, .iload_n 3, 1), (81, .iconst 1, 1), (82, .iadd, 1), (83, .istore_n 3, 1), (84, .iload 4, 2), (86, .iload_n 3, 1), (87, .invokestatic 29, 3), (90, .istore 4, 2), (92, .iload 5, 2), (94, .iload_n 3, 1), (95, .invokestatic 19, 3), (98, .istore 5, 2), (100, .iinc 7 1, 3), (103, .goto (-81), 3), (106, .iload_n 3, 1), (107, .ireturn, 1)])
def q_66 : pm_D := (⟨"StandUpBook$Wheel", "<init>", "()V"⟩, 10, prog_12_method_1_code, 1, (Option.none : Option FieldType), [(0, .aload_n 0, 1), (1, .invokespecial 1, 3), (4, .return_, 1)])
def q_67 : pm_D := (⟨"StandUpBook$Wheel", "riseOf", "(III)I"⟩, 10, prog_12_method_2_code, 5, (Option.some FieldType.int), [(0, .aload_n 0, 1), (1, .iload_n 1, 1), (2, .iload_n 2, 1), (3, .iload_n 3, 1), (4, .invokespecial 7, 3), (7, .istore 4, 2), (9, .iload 4, 2), (11, .iconst 1, 1), (12, .if_icmp .lt 10, 3), (15, .iload 4, 2), (17, .iload_n 3, 1), (18, .iadd, 1), (19, .goto 5, 3), (22, .iload 4, 2), (24, .ireturn, 1)])
def q_68 : pm_D := (⟨"StandUpBook$Wheel", "reachOf", "(II)I"⟩, 10, prog_12_method_3_code, 3, (Option.some FieldType.int), [(0, .aload_n 0, 1), (1, .iload_n 1, 1), (2, .iload_n 2, 1), (3, .invokespecial 11, 3), (6, .iconst 3, 1), (7, .iadd, 1), (8, .ireturn, 1)])
def q_69 : pm_D := (⟨"StandUpBook$Wheel", "bearing", "()I"⟩, 10, prog_12_method_4_code, 1, (Option.some FieldType.int), [(0, .aload_n 0, 1), (1, .invokespecial 15, 3), (4, .iconst 2, 1), (5, .idiv, 1), (6, .ireturn, 1)])
def q_70 : pm_D := (⟨"StandUpBook", "<init>", "()V"⟩, 11, prog_1_method_1_code, 3, (Option.none : Option FieldType), [(0, .aload_n 0, 1), (1, .invokespecial 1, 3), (4, .aload_n 0, 1), (5, .iconst 2, 1), (6, .anewarray 9, 3), (9, .putfield 11, 3), (12, .aload_n 0, 1), (13, .iconst 2, 1), (14, .newarray .boolean, 2), (16, .putfield 15, 3), (19, .aload_n 0, 1), (20, .new 19, 3), (23, .dup, 1), (24, .invokespecial 21, 3), (27, .putfield 22, 3), (30, .aload_n 0, 1), (31, .new 26, 3), (34, .dup, 1), (35, .invokespecial 28, 3), (38, .putfield 29, 3), (41, .aload_n 0, 1), (42, .bipush 13, 2), (44, .newarray .int, 2), (46, .putfield 33, 3), (49, .aload_n 0, 1), (50, .bipush 13, 2), (52, .newarray .int, 2), (54, .putfield 37, 3), (57, .aload_n 0, 1), (58, .lconst 0, 1), (59, .putfield 40, 3), (62, .aload_n 0, 1), (63, .lconst 1, 1), (64, .putfield 44, 3), (67, .aload_n 0, 1), (68, .iconst 0, 1), (69, .putfield 47, 3), (72, .aload_n 0, 1), (73, .iconst 0, 1), (74, .putfield 51, 3), (77, .aload_n 0, 1), (78, .iconst 0, 1), (79, .putfield 54, 3), (82, .bipush 6, 2), (84, .anewarray 57, 3), (87, .dup, 1), (88, .iconst 0, 1), (89, .new 57, 3), (92, .dup, 1), (93, .invokespecial 59, 3), (96, .aastore, 1), (97, .dup, 1), (98, .iconst 1, 1), (99, .new 60, 3), (102, .dup, 1), (103, .invokespecial 62, 3), (106, .aastore, 1), (107, .dup, 1), (108, .iconst 2, 1), (109, .new 63, 3), (112, .dup, 1), (113, .invokespecial 65, 3), (116, .aastore, 1), (117, .dup, 1), (118, .iconst 3, 1), (119, .new 66, 3), (122, .dup, 1), (123, .invokespecial 68, 3), (126, .aastore, 1), (127, .dup, 1), (128, .iconst 4, 1), (129, .new 69, 3), (132, .dup, 1), (133, .invokespecial 71, 3), (136, .aastore, 1), (137, .dup, 1), (138, .iconst 5, 1), (139, .new 72, 3), (142, .dup, 1), (143, .invokespecial 74, 3), (146, .aastore, 1), (147, .astore_n 1, 1), (148, .aload_n 0, 1), (149, .new 9, 3), (152, .dup, 1), (153, .aload_n 1, 1), (154, .invokespecial 75, 3), (157, .putfield 78, 3), (160, .iconst 0, 1), (161, .istore_n 2, 1), (162, .iload_n 2, 1), (163, .iconst 2, 1), (164, .if_icmp .ge 23, 3), (167, .aload_n 0, 1), (168, .getfield 11, 3), (171, .iload_n 2, 1), (172, .new 9, 3), (175, .dup, 1), (176, .aload_n 1, 1), (177, .invokespecial 75, 3), (180, .aastore, 1), (181, .iinc 2 1, 3), (184, .goto (-22), 3), (187, .aload_n 0, 1), (188, .new 82, 3), (191, .dup, 1), (192, .aload_n 1, 1), (193, .invokespecial 84, 3), (196, .putfield 85, 3), (199, .return_, 1)])
def q_71 : pm_D := (⟨"StandUpBook", "book", "(I)I"⟩, 11, prog_1_method_2_code, 3, (Option.some FieldType.int), [(0, .iload_n 1, 1), (1, .bipush 6, 2), (3, .bipush 40, 2), (5, .invokestatic 89, 3), (8, .ifCond .eq 8, 3), (11, .aload_n 0, 1), (12, .invokevirtual 93, 3), (15, .ireturn, 1), (16, .aload_n 0, 1), (17, .getfield 78, 3), (20, .getfield 97, 3), (23, .getfield 100, 3), (26, .istore_n 2, 1), (27, .aload_n 0, 1), (28, .getfield 78, 3), (31, .iload_n 1, 1), (32, .invokevirtual 103, 3), (35, .iload_n 2, 1), (36, .ireturn, 1)])
def q_72 : pm_D := (⟨"StandUpBook", "piece", "(IIIII)I"⟩, 11, prog_1_method_3_code, 6, (Option.some FieldType.int), [(0, .iload_n 1, 1), (1, .iconst 0, 1), (2, .iconst 5, 1), (3, .invokestatic 89, 3), (6, .ifCond .ne 55, 3), (9, .iload_n 2, 1), (10, .iconst 1, 1), (11, .bipush 9, 2), (13, .invokestatic 89, 3), (16, .ifCond .ne 45, 3), (19, .iload_n 3, 1), (20, .iconst 1, 1), (21, .bipush 9, 2), (23, .invokestatic 89, 3), (26, .ifCond .ne 35, 3), (29, .iload 4, 2), (31, .iconst 0, 1), (32, .bipush 9, 2), (34, .invokestatic 89, 3), (37, .ifCond .ne 24, 3), (40, .iload 5, 2), (42, .iconst (-1), 1), (43, .aload_n 0, 1), (44, .getfield 78, 3), (47, .getfield 97, 3), (50, .getfield 100, 3), (53, .iconst 1, 1), (54, .isub, 1), (55, .invokestatic 89, 3), (58, .ifCond .eq 8, 3), (61, .aload_n 0, 1), (62, .invokevirtual 93, 3), (65, .ireturn, 1), (66, .aload_n 0, 1), (67, .getfield 78, 3), (70, .getfield 97, 3), (73, .invokevirtual 107, 3), (76, .ifCond .eq 8, 3), (79, .aload_n 0, 1), (80, .invokevirtual 111, 3), (83, .ireturn, 1), (84, .aload_n 0, 1), (85, .getfield 78, 3), (88, .iconst 0, 1), (89, .putfield 114, 3), (92, .aload_n 0, 1), (93, .getfield 78, 3), (96, .getfield 97, 3), (99, .iload_n 1, 1), (100, .iload_n 2, 1), (101, .iload_n 3, 1), (102, .iload 4, 2), (104, .iload 5, 2), (106, .invokevirtual 117, 3), (109, .ireturn, 1)])
def q_73 : pm_D := (⟨"StandUpBook", "type", "(I)I"⟩, 11, prog_1_method_4_code, 2, (Option.some FieldType.int), [(0, .iload_n 1, 1), (1, .iconst 0, 1), (2, .bipush 127, 2), (4, .invokestatic 89, 3), (7, .ifCond .eq 8, 3), (10, .aload_n 0, 1), (11, .invokevirtual 93, 3), (14, .ireturn, 1), (15, .aload_n 0, 1), (16, .getfield 22, 3), (19, .getfield 121, 3), (22, .sipush 150, 3), (25, .if_icmp .lt 8, 3), (28, .aload_n 0, 1), (29, .invokevirtual 111, 3), (32, .ireturn, 1), (33, .aload_n 0, 1), (34, .getfield 22, 3), (37, .iload_n 1, 1), (38, .invokevirtual 124, 3), (41, .aload_n 0, 1), (42, .getfield 22, 3), (45, .getfield 121, 3), (48, .ireturn, 1)])
def q_74 : pm_D := (⟨"StandUpBook", "clear", "()I"⟩, 11, prog_1_method_5_code, 2, (Option.some FieldType.int), [(0, .aload_n 0, 1), (1, .getfield 22, 3), (4, .getfield 121, 3), (7, .istore_n 1, 1), (8, .aload_n 0, 1), (9, .getfield 22, 3), (12, .iconst 0, 1), (13, .putfield 121, 3), (16, .iload_n 1, 1), (17, .ireturn, 1)])
def q_75 : pm_D := (⟨"StandUpBook", "read", "()I"⟩, 11, prog_1_method_6_code, 2, (Option.some FieldType.int), [(0, .aload_n 0, 1), (1, .getfield 22, 3), (4, .aload_n 0, 1), (5, .getfield 85, 3), (8, .invokevirtual 127, 3), (11, .istore_n 1, 1), (12, .iload_n 1, 1), (13, .ifCond .lt 31, 3), (16, .aload_n 0, 1), (17, .getfield 78, 3), (20, .aload_n 0, 1), (21, .getfield 85, 3), (24, .getfield 131, 3), (27, .invokevirtual 103, 3), (30, .aload_n 0, 1), (31, .getfield 78, 3), (34, .getfield 97, 3), (37, .aload_n 0, 1), (38, .getfield 85, 3), (41, .invokevirtual 134, 3), (44, .iload_n 1, 1), (45, .ireturn, 1)])
def q_76 : pm_D := (⟨"StandUpBook", "opens", "(I)I"⟩, 11, prog_1_method_7_code, 2, (Option.some FieldType.int), [(0, .iload_n 1, 1), (1, .invokestatic 138, 3), (4, .ifCond .eq 8, 3), (7, .aload_n 0, 1), (8, .invokevirtual 93, 3), (11, .ireturn, 1), (12, .aload_n 0, 1), (13, .getfield 78, 3), (16, .getfield 97, 3), (19, .getfield 142, 3), (22, .iload_n 1, 1), (23, .if_icmp .ne 8, 3), (26, .aload_n 0, 1), (27, .invokevirtual 145, 3), (30, .ireturn, 1), (31, .aload_n 0, 1), (32, .getfield 78, 3), (35, .invokevirtual 148, 3), (38, .aload_n 0, 1), (39, .getfield 78, 3), (42, .getfield 97, 3), (45, .iload_n 1, 1), (46, .invokevirtual 151, 3), (49, .aload_n 0, 1), (50, .getfield 78, 3), (53, .getfield 97, 3), (56, .iload_n 1, 1), (57, .iconst 0, 1), (58, .invokevirtual 154, 3), (61, .ireturn, 1)])
def q_77 : pm_D := (⟨"StandUpBook", "pulls", "(II)I"⟩, 11, prog_1_method_8_code, 4, (Option.some FieldType.int), [(0, .aload_n 0, 1), (1, .iload_n 1, 1), (2, .invokevirtual 158, 3), (5, .ifCond .ne 12, 3), (8, .iload_n 2, 1), (9, .iconst 0, 1), (10, .iconst 3, 1), (11, .invokestatic 89, 3), (14, .ifCond .eq 8, 3), (17, .aload_n 0, 1), (18, .invokevirtual 93, 3), (21, .ireturn, 1), (22, .aload_n 0, 1), (23, .getfield 78, 3), (26, .getfield 97, 3), (29, .getfield 161, 3), (32, .iload_n 1, 1), (33, .aaload, 1), (34, .getfield 165, 3), (37, .istore_n 3, 1), (38, .iload_n 3, 1), (39, .iload_n 2, 1), (40, .if_icmp .ne 8, 3), (43, .aload_n 0, 1), (44, .invokevirtual 145, 3), (47, .ireturn, 1), (48, .aload_n 0, 1), (49, .getfield 78, 3), (52, .invokevirtual 148, 3), (55, .aload_n 0, 1), (56, .getfield 78, 3), (59, .getfield 97, 3), (62, .getfield 161, 3), (65, .iload_n 1, 1), (66, .aaload, 1), (67, .iload_n 2, 1), (68, .putfield 165, 3), (71, .iload_n 3, 1), (72, .ireturn, 1)])
def q_78 : pm_D := (⟨"StandUpBook", "tears", "(I)I"⟩, 11, prog_1_method_9_code, 2, (Option.some FieldType.int), [(0, .aload_n 0, 1), (1, .iload_n 1, 1), (2, .invokevirtual 158, 3), (5, .ifCond .eq 8, 3), (8, .aload_n 0, 1), (9, .invokevirtual 93, 3), (12, .ireturn, 1), (13, .aload_n 0, 1), (14, .getfield 78, 3), (17, .invokevirtual 148, 3), (20, .aload_n 0, 1), (21, .getfield 78, 3), (24, .iconst 0, 1), (25, .putfield 170, 3), (28, .aload_n 0, 1), (29, .getfield 78, 3), (32, .iconst 0, 1), (33, .putfield 173, 3), (36, .aload_n 0, 1), (37, .getfield 78, 3), (40, .getfield 97, 3), (43, .iload_n 1, 1), (44, .invokevirtual 176, 3), (47, .ireturn, 1)])
def q_79 : pm_D := (⟨"StandUpBook", "undo", "()I"⟩, 11, prog_1_method_10_code, 1, (Option.some FieldType.int), [(0, .aload_n 0, 1), (1, .getfield 78, 3), (4, .getfield 114, 3), (7, .ifCond .ne 8, 3), (10, .aload_n 0, 1), (11, .invokevirtual 145, 3), (14, .ireturn, 1), (15, .aload_n 0, 1), (16, .getfield 78, 3), (19, .invokevirtual 180, 3), (22, .aload_n 0, 1), (23, .getfield 78, 3), (26, .getfield 97, 3), (29, .getfield 142, 3), (32, .ireturn, 1)])
def q_80 : pm_D := (⟨"StandUpBook", "of", "(II)I"⟩, 11, prog_1_method_11_code, 4, (Option.some FieldType.int), [(0, .aload_n 0, 1), (1, .iload_n 1, 1), (2, .invokevirtual 158, 3), (5, .ifCond .eq 8, 3), (8, .aload_n 0, 1), (9, .invokevirtual 93, 3), (12, .ireturn, 1), (13, .aload_n 0, 1), (14, .getfield 78, 3), (17, .getfield 97, 3), (20, .getfield 161, 3), (23, .iload_n 1, 1), (24, .aaload, 1), (25, .astore_n 3, 1), (26, .iload_n 2, 1), (27, .tableswitch 93 0 7 #[45, 50, 55, 60, 65, 70, 75, 80], 45), (72, .aload_n 3, 1), (73, .getfield 183, 3), (76, .ireturn, 1), (77, .aload_n 3, 1), (78, .getfield 186, 3), (81, .ireturn, 1), (82, .aload_n 3, 1), (83, .getfield 189, 3), (86, .ireturn, 1), (87, .aload_n 3, 1), (88, .getfield 192, 3), (91, .ireturn, 1), (92, .aload_n 3, 1), (93, .getfield 195, 3), (96, .ireturn, 1), (97, .aload_n 3, 1), (98, .getfield 165, 3), (101, .ireturn, 1), (102, .aload_n 3, 1), (103, .getfield 198, 3), (106, .ireturn, 1), (107, .aload_n 3, 1), (108, .invokevirtual 201, 3), (111, .ifCond .eq 7, 3), (114, .iconst 1, 1), (115, .goto 4, 3), (118, .iconst 0, 1), (119, .ireturn, 1), (120, .aload_n 0, 1), (121, .invokevirtual 93, 3), (124, .ireturn, 1)])
def q_81 : pm_D := (⟨"StandUpBook", "gives", "(III)I"⟩, 11, prog_1_method_12_code, 4, (Option.some FieldType.int), [(0, .aload_n 0, 1), (1, .iload_n 1, 1), (2, .invokevirtual 158, 3), (5, .ifCond .ne 10, 3), (8, .iload_n 2, 1), (9, .invokestatic 138, 3), (12, .ifCond .eq 8, 3), (15, .aload_n 0, 1), (16, .invokevirtual 93, 3), (19, .ireturn, 1), (20, .iload_n 3, 1), (21, .tableswitch 68 0 2 #[27, 40, 52], 27), (48, .aload_n 0, 1), (49, .getfield 78, 3), (52, .getfield 97, 3), (55, .iload_n 1, 1), (56, .iload_n 2, 1), (57, .invokevirtual 204, 3), (60, .ireturn, 1), (61, .aload_n 0, 1), (62, .getfield 78, 3), (65, .getfield 97, 3), (68, .iload_n 1, 1), (69, .invokevirtual 207, 3), (72, .ireturn, 1), (73, .aload_n 0, 1), (74, .getfield 78, 3), (77, .getfield 97, 3), (80, .getfield 161, 3), (83, .iload_n 1, 1), (84, .aaload, 1), (85, .getfield 210, 3), (88, .ireturn, 1), (89, .aload_n 0, 1), (90, .invokevirtual 93, 3), (93, .ireturn, 1)])
def q_82 : pm_D := (⟨"StandUpBook", "height", "(II)I"⟩, 11, prog_1_method_13_code, 3, (Option.some FieldType.int), [(0, .aload_n 0, 1), (1, .iload_n 1, 1), (2, .invokevirtual 158, 3), (5, .ifCond .ne 10, 3), (8, .iload_n 2, 1), (9, .invokestatic 138, 3), (12, .ifCond .eq 8, 3), (15, .aload_n 0, 1), (16, .invokevirtual 93, 3), (19, .ireturn, 1), (20, .aload_n 0, 1), (21, .getfield 78, 3), (24, .getfield 97, 3), (27, .iload_n 2, 1), (28, .iconst 0, 1), (29, .invokevirtual 213, 3), (32, .aload_n 0, 1), (33, .getfield 78, 3), (36, .getfield 97, 3), (39, .getfield 217, 3), (42, .iload_n 1, 1), (43, .iaload, 1), (44, .ireturn, 1)])
def q_83 : pm_D := (⟨"StandUpBook", "seen", "(I)I"⟩, 11, prog_1_method_14_code, 2, (Option.some FieldType.int), [(0, .iload_n 1, 1), (1, .invokestatic 138, 3), (4, .ifCond .eq 8, 3), (7, .aload_n 0, 1), (8, .invokevirtual 93, 3), (11, .ireturn, 1), (12, .aload_n 0, 1), (13, .getfield 78, 3), (16, .getfield 97, 3), (19, .iload_n 1, 1), (20, .iconst 0, 1), (21, .invokevirtual 154, 3), (24, .ireturn, 1)])
def q_84 : pm_D := (⟨"StandUpBook", "first", "(I)I"⟩, 11, prog_1_method_15_code, 4, (Option.some FieldType.int), [(0, .aload_n 0, 1), (1, .iload_n 1, 1), (2, .invokevirtual 158, 3), (5, .ifCond .eq 8, 3), (8, .aload_n 0, 1), (9, .invokevirtual 93, 3), (12, .ireturn, 1), (13, .aload_n 0, 1), (14, .iload_n 1, 1), (15, .invokevirtual 220, 3), (18, .istore_n 2, 1), (19, .iconst 0, 1), (20, .istore_n 3, 1), (21, .iload_n 3, 1), (22, .bipush 12, 2), (24, .if_icmp .gt 19, 3), (27, .iload_n 2, 1), (28, .iload_n 3, 1), (29, .invokestatic 223, 3), (32, .ifCond .eq 5, 3), (35, .iload_n 3, 1), (36, .ireturn, 1), (37, .iinc 3 1, 3), (40, .goto (-19), 3), (43, .iconst (-1), 1), (44, .ireturn, 1)])
def q_85 : pm_D := (⟨"StandUpBook", "best", "(I)I"⟩, 11, prog_1_method_16_code, 6, (Option.some FieldType.int), [(0, .iload_n 1, 1), (1, .iconst 0, 1), (2, .iconst 1, 1), (3, .invokestatic 89, 3), (6, .ifCond .eq 8, 3), (9, .aload_n 0, 1), (10, .invokevirtual 93, 3), (13, .ireturn, 1), (14, .iconst 0, 1), (15, .istore_n 2, 1), (16, .iconst 0, 1), (17, .istore_n 3, 1), (18, .iconst 0, 1), (19, .istore 4, 2), (21, .iload 4, 2), (23, .bipush 12, 2), (25, .if_icmp .gt 35, 3), (28, .aload_n 0, 1), (29, .getfield 78, 3), (32, .getfield 97, 3), (35, .iload 4, 2), (37, .invokevirtual 227, 3), (40, .istore 5, 2), (42, .iload 5, 2), (44, .iload_n 3, 1), (45, .if_icmp .le 9, 3), (48, .iload 4, 2), (50, .istore_n 2, 1), (51, .iload 5, 2), (53, .istore_n 3, 1), (54, .iinc 4 1, 3), (57, .goto (-36), 3), (60, .iload_n 1, 1), (61, .ifCond .ne 7, 3), (64, .iload_n 2, 1), (65, .goto 4, 3), (68, .iload_n 3, 1), (69, .ireturn, 1)])
def q_86 : pm_D := (⟨"StandUpBook", "out", "(I)I"⟩, 11, prog_1_method_17_code, 2, (Option.some FieldType.int), [(0, .iload_n 1, 1), (1, .iconst 0, 1), (2, .iconst 1, 1), (3, .invokestatic 89, 3), (6, .ifCond .eq 8, 3), (9, .aload_n 0, 1), (10, .invokevirtual 93, 3), (13, .ireturn, 1), (14, .iload_n 1, 1), (15, .ifCond .ne 16, 3), (18, .aload_n 0, 1), (19, .getfield 78, 3), (22, .getfield 97, 3), (25, .invokevirtual 230, 3), (28, .goto 13, 3), (31, .aload_n 0, 1), (32, .getfield 78, 3), (35, .getfield 97, 3), (38, .invokevirtual 233, 3), (41, .ireturn, 1)])
def q_87 : pm_D := (⟨"StandUpBook", "tour", "(II)I"⟩, 11, prog_1_method_18_code, 5, (Option.some FieldType.int), [(0, .aload_n 0, 1), (1, .iload_n 1, 1), (2, .invokevirtual 236, 3), (5, .ifCond .ne 8, 3), (8, .iload_n 2, 1), (9, .iconst (-1), 1), (10, .if_icmp .ge 8, 3), (13, .aload_n 0, 1), (14, .invokevirtual 239, 3), (17, .ireturn, 1), (18, .aload_n 0, 1), (19, .getfield 78, 3), (22, .getfield 97, 3), (25, .getfield 142, 3), (28, .istore_n 3, 1), (29, .iconst 0, 1), (30, .istore 4, 2), (32, .iload 4, 2), (34, .bipush 12, 2), (36, .if_icmp .gt 32, 3), (39, .aload_n 0, 1), (40, .getfield 29, 3), (43, .getfield 242, 3), (46, .iload 4, 2), (48, .aload_n 0, 1), (49, .getfield 78, 3), (52, .getfield 97, 3), (55, .iload 4, 2), (57, .iconst 0, 1), (58, .invokevirtual 154, 3), (61, .iastore, 1), (62, .iinc 4 1, 3), (65, .goto (-33), 3), (68, .aload_n 0, 1), (69, .getfield 29, 3), (72, .iload_n 1, 1), (73, .putfield 245, 3), (76, .aload_n 0, 1), (77, .getfield 29, 3), (80, .iconst 0, 1), (81, .bipush 12, 2), (83, .invokevirtual 248, 3), (86, .ifCond .ne 5, 3), (89, .iconst (-1), 1), (90, .ireturn, 1), (91, .aload_n 0, 1), (92, .getfield 29, 3), (95, .iload_n 3, 1), (96, .iload_n 3, 1), (97, .iload_n 3, 1), (98, .invokevirtual 251, 3), (101, .istore 4, 2), (103, .iload_n 2, 1), (104, .iload 4, 2), (106, .if_icmp .le 6, 3), (109, .bipush (-5), 2), (111, .ireturn, 1), (112, .iload_n 2, 1), (113, .iconst (-1), 1), (114, .if_icmp .ne 8, 3), (117, .iload 4, 2), (119, .goto 12, 3), (122, .aload_n 0, 1), (123, .getfield 29, 3), (126, .iload_n 3, 1), (127, .iload_n 2, 1), (128, .invokevirtual 255, 3), (131, .ireturn, 1)])
def q_88 : pm_D := (⟨"StandUpBook", "place", "(III)I"⟩, 11, prog_1_method_19_code, 8, (Option.some FieldType.int), [(0, .aload_n 0, 1), (1, .iload_n 1, 1), (2, .invokevirtual 158, 3), (5, .ifCond .ne 19, 3), (8, .iload_n 2, 1), (9, .invokestatic 138, 3), (12, .ifCond .ne 12, 3), (15, .iload_n 3, 1), (16, .iconst 0, 1), (17, .iconst 1, 1), (18, .invokestatic 89, 3), (21, .ifCond .eq 8, 3), (24, .aload_n 0, 1), (25, .invokevirtual 93, 3), (28, .ireturn, 1), (29, .aload_n 0, 1), (30, .getfield 85, 3), (33, .aload_n 0, 1), (34, .getfield 78, 3), (37, .getfield 97, 3), (40, .invokevirtual 134, 3), (43, .iconst 0, 1), (44, .istore 4, 2), (46, .iconst 0, 1), (47, .istore 5, 2), (49, .iconst 0, 1), (50, .istore 6, 2), (52, .iload 6, 2), (54, .bipush 9, 2), (56, .if_icmp .gt 48, 3), (59, .aload_n 0, 1), (60, .getfield 85, 3), (63, .getfield 161, 3), (66, .iload_n 1, 1), (67, .aaload, 1), (68, .iload 6, 2), (70, .putfield 192, 3), (73, .aload_n 0, 1), (74, .getfield 85, 3), (77, .iload_n 2, 1), (78, .invokevirtual 227, 3), (81, .istore 7, 2), (83, .iload 7, 2), (85, .iload 5, 2), (87, .if_icmp .le 11, 3), (90, .iload 6, 2), (92, .istore 4, 2), (94, .iload 7, 2), (96, .istore 5, 2), (98, .iinc 6 1, 3), (101, .goto (-49), 3), (104, .iload_n 3, 1), (105, .ifCond .ne 8, 3), (108, .iload 4, 2), (110, .goto 5, 3), (113, .iload 5, 2), (115, .ireturn, 1)])
def q_89 : pm_D := (⟨"StandUpBook", "lasts", "()I"⟩, 11, prog_1_method_20_code, 2, (Option.some FieldType.int), [(0, .iconst 0, 1), (1, .istore_n 1, 1), (2, .iload_n 1, 1), (3, .bipush 99, 2), (5, .if_icmp .gt 28, 3), (8, .aload_n 0, 1), (9, .getfield 78, 3), (12, .getfield 97, 3), (15, .bipush 24, 2), (17, .iload_n 1, 1), (18, .imul, 1), (19, .invokevirtual 258, 3), (22, .ifCond .eq 5, 3), (25, .iload_n 1, 1), (26, .ireturn, 1), (27, .iinc 1 1, 3), (30, .goto (-28), 3), (33, .iconst (-1), 1), (34, .ireturn, 1)])
def q_90 : pm_D := (⟨"StandUpBook", "turns", "(II)I"⟩, 11, prog_1_method_21_code, 6, (Option.some FieldType.int), [(0, .aload_n 0, 1), (1, .iload_n 1, 1), (2, .invokevirtual 158, 3), (5, .ifCond .ne 12, 3), (8, .iload_n 2, 1), (9, .iconst 0, 1), (10, .iconst 1, 1), (11, .invokestatic 89, 3), (14, .ifCond .eq 8, 3), (17, .aload_n 0, 1), (18, .invokevirtual 93, 3), (21, .ireturn, 1), (22, .aload_n 0, 1), (23, .getfield 78, 3), (26, .getfield 97, 3), (29, .getfield 142, 3), (32, .istore_n 3, 1), (33, .aload_n 0, 1), (34, .iload_n 1, 1), (35, .invokevirtual 220, 3), (38, .istore 4, 2), (40, .iload 4, 2), (42, .iload_n 3, 1), (43, .invokestatic 223, 3), (46, .ifCond .eq 13, 3), (49, .iload_n 2, 1), (50, .ifCond .ne 7, 3), (53, .iconst 2, 1), (54, .goto 4, 3), (57, .iconst (-1), 1), (58, .ireturn, 1), (59, .iload_n 3, 1), (60, .iconst 1, 1), (61, .iload_n 3, 1), (62, .ishl, 1), (63, .iload 4, 2), (65, .bipush 13, 2), (67, .invokestatic 261, 3), (70, .istore 5, 2), (72, .iload_n 2, 1), (73, .iconst 1, 1), (74, .if_icmp .ne 6, 3), (77, .iload 5, 2), (79, .ireturn, 1), (80, .iload 5, 2), (82, .iconst (-1), 1), (83, .if_icmp .ne 7, 3), (86, .iconst 0, 1), (87, .goto 4, 3), (90, .iconst 1, 1), (91, .ireturn, 1)])
def q_91 : pm_D := (⟨"StandUpBook", "note", "(IIIII)I"⟩, 11, prog_1_method_22_code, 7, (Option.some FieldType.int), [(0, .aload_n 0, 1), (1, .iload_n 1, 1), (2, .invokevirtual 158, 3), (5, .ifCond .ne 41, 3), (8, .iload_n 2, 1), (9, .iconst 1, 1), (10, .bipush 9, 2), (12, .invokestatic 89, 3), (15, .ifCond .ne 31, 3), (18, .iload_n 3, 1), (19, .invokestatic 138, 3), (22, .ifCond .ne 24, 3), (25, .iload 4, 2), (27, .iconst 0, 1), (28, .iconst 3, 1), (29, .invokestatic 89, 3), (32, .ifCond .ne 14, 3), (35, .iload 5, 2), (37, .iconst 0, 1), (38, .bipush 20, 2), (40, .invokestatic 89, 3), (43, .ifCond .eq 8, 3), (46, .aload_n 0, 1), (47, .invokevirtual 93, 3), (50, .ireturn, 1), (51, .aload_n 0, 1), (52, .getfield 78, 3), (55, .getfield 170, 3), (58, .bipush 6, 2), (60, .if_icmp .lt 8, 3), (63, .aload_n 0, 1), (64, .invokevirtual 111, 3), (67, .ireturn, 1), (68, .aload_n 0, 1), (69, .getfield 78, 3), (72, .getfield 265, 3), (75, .aload_n 0, 1), (76, .getfield 78, 3), (79, .getfield 170, 3), (82, .aaload, 1), (83, .astore 6, 2), (85, .aload 6, 2), (87, .iconst 0, 1), (88, .iload_n 1, 1), (89, .iastore, 1), (90, .aload 6, 2), (92, .iconst 1, 1), (93, .iload_n 2, 1), (94, .iastore, 1), (95, .aload 6, 2), (97, .iconst 2, 1), (98, .iload_n 3, 1), (99, .iastore, 1), (100, .aload 6, 2), (102, .iconst 3, 1), (103, .iload 4, 2), (105, .iastore, 1), (106, .aload 6, 2), (108, .iconst 4, 1), (109, .iload 5, 2), (111, .iastore, 1), (112, .aload_n 0, 1), (113, .getfield 78, 3), (116, .dup, 1), (117, .getfield 170, 3), (120, .iconst 1, 1), (121, .iadd, 1), (122, .putfield 170, 3), (125, .aload_n 0, 1), (126, .getfield 78, 3), (129, .getfield 170, 3), (132, .ireturn, 1)])
def q_92 : pm_D := (⟨"StandUpBook", "stood", "(II)I"⟩, 11, prog_1_method_23_code, 4, (Option.some FieldType.int), [(0, .iload_n 1, 1), (1, .invokestatic 138, 3), (4, .ifCond .ne 11, 3), (7, .aload_n 0, 1), (8, .iload_n 2, 1), (9, .invokevirtual 236, 3), (12, .ifCond .eq 8, 3), (15, .aload_n 0, 1), (16, .invokevirtual 93, 3), (19, .ireturn, 1), (20, .aload_n 0, 1), (21, .getfield 78, 3), (24, .getfield 173, 3), (27, .bipush 6, 2), (29, .if_icmp .lt 8, 3), (32, .aload_n 0, 1), (33, .invokevirtual 111, 3), (36, .ireturn, 1), (37, .aload_n 0, 1), (38, .getfield 78, 3), (41, .getfield 269, 3), (44, .aload_n 0, 1), (45, .getfield 78, 3), (48, .getfield 173, 3), (51, .aaload, 1), (52, .astore_n 3, 1), (53, .aload_n 3, 1), (54, .iconst 0, 1), (55, .iload_n 1, 1), (56, .iastore, 1), (57, .aload_n 3, 1), (58, .iconst 1, 1), (59, .iload_n 2, 1), (60, .iastore, 1), (61, .aload_n 0, 1), (62, .getfield 78, 3), (65, .dup, 1), (66, .getfield 173, 3), (69, .iconst 1, 1), (70, .iadd, 1), (71, .putfield 173, 3), (74, .aload_n 0, 1), (75, .getfield 78, 3), (78, .getfield 173, 3), (81, .ireturn, 1)])
def q_93 : pm_D := (⟨"StandUpBook", "forget", "(I)I"⟩, 11, prog_1_method_24_code, 3, (Option.some FieldType.int), [(0, .iload_n 1, 1), (1, .lookupswitch 63 #[(0, 27), (1, 45)], 27), (28, .aload_n 0, 1), (29, .getfield 78, 3), (32, .getfield 170, 3), (35, .istore_n 2, 1), (36, .aload_n 0, 1), (37, .getfield 78, 3), (40, .iconst 0, 1), (41, .putfield 170, 3), (44, .iload_n 2, 1), (45, .ireturn, 1), (46, .aload_n 0, 1), (47, .getfield 78, 3), (50, .getfield 173, 3), (53, .istore_n 2, 1), (54, .aload_n 0, 1), (55, .getfield 78, 3), (58, .iconst 0, 1), (59, .putfield 173, 3), (62, .iload_n 2, 1), (63, .ireturn, 1), (64, .aload_n 0, 1), (65, .invokevirtual 93, 3), (68, .ireturn, 1)])
def q_94 : pm_D := (⟨"StandUpBook", "is", "(I)I"⟩, 11, prog_1_method_25_code, 2, (Option.some FieldType.int), [(0, .aload_n 0, 1), (1, .iload_n 1, 1), (2, .invokevirtual 158, 3), (5, .ifCond .eq 8, 3), (8, .aload_n 0, 1), (9, .invokevirtual 93, 3), (12, .ireturn, 1), (13, .aload_n 0, 1), (14, .iload_n 1, 1), (15, .invokevirtual 272, 3), (18, .ireturn, 1)])
def q_95 : pm_D := (⟨"StandUpBook", "look", "(I)I"⟩, 11, prog_1_method_26_code, 9, (Option.some FieldType.int), [(0, .aload_n 0, 1), (1, .iload_n 1, 1), (2, .invokevirtual 158, 3), (5, .ifCond .eq 8, 3), (8, .aload_n 0, 1), (9, .invokevirtual 93, 3), (12, .ireturn, 1), (13, .aload_n 0, 1), (14, .iload_n 1, 1), (15, .invokevirtual 272, 3), (18, .istore_n 2, 1), (19, .iload_n 2, 1), (20, .ifCond .ne 5, 3), (23, .iconst (-1), 1), (24, .ireturn, 1), (25, .aload_n 0, 1), (26, .getfield 78, 3), (29, .getfield 97, 3), (32, .getfield 161, 3), (35, .iload_n 1, 1), (36, .aaload, 1), (37, .getfield 189, 3), (40, .istore_n 3, 1), (41, .iconst (-1), 1), (42, .istore 4, 2), (44, .bipush 7, 2), (46, .istore 5, 2), (48, .iconst 0, 1), (49, .istore 6, 2), (51, .iload 6, 2), (53, .bipush 12, 2), (55, .if_icmp .gt 57, 3), (58, .iconst 0, 1), (59, .istore 7, 2), (61, .iload 7, 2), (63, .iconst 3, 1), (64, .if_icmp .gt 42, 3), (67, .aload_n 0, 1), (68, .iload_n 2, 1), (69, .iload_n 3, 1), (70, .iload 6, 2), (72, .iload 7, 2), (74, .invokevirtual 275, 3), (77, .istore 8, 2), (79, .iload 8, 2), (81, .iload 5, 2), (83, .if_icmp .ge 17, 3), (86, .bipush 10, 2), (88, .iload 6, 2), (90, .imul, 1), (91, .iload 7, 2), (93, .iadd, 1), (94, .istore 4, 2), (96, .iload 8, 2), (98, .istore 5, 2), (100, .iinc 7 1, 3), (103, .goto (-42), 3), (106, .iinc 6 1, 3), (109, .goto (-58), 3), (112, .iload 4, 2), (114, .ireturn, 1)])
def q_96 : pm_D := (⟨"StandUpBook", "where", "(II)I"⟩, 11, prog_1_method_27_code, 7, (Option.some FieldType.int), [(0, .aload_n 0, 1), (1, .iload_n 1, 1), (2, .invokevirtual 158, 3), (5, .ifCond .ne 12, 3), (8, .iload_n 2, 1), (9, .iconst 0, 1), (10, .iconst 1, 1), (11, .invokestatic 89, 3), (14, .ifCond .eq 8, 3), (17, .aload_n 0, 1), (18, .invokevirtual 93, 3), (21, .ireturn, 1), (22, .aload_n 0, 1), (23, .getfield 85, 3), (26, .aload_n 0, 1), (27, .getfield 78, 3), (30, .getfield 97, 3), (33, .invokevirtual 134, 3), (36, .aload_n 0, 1), (37, .getfield 85, 3), (40, .getfield 161, 3), (43, .iload_n 1, 1), (44, .aaload, 1), (45, .astore_n 3, 1), (46, .iload_n 2, 1), (47, .ifCond .ne 8, 3), (50, .bipush 9, 2), (52, .goto 5, 3), (55, .bipush 9, 2), (57, .istore 4, 2), (59, .iconst 0, 1), (60, .istore 5, 2), (62, .iload_n 2, 1), (63, .ifCond .ne 7, 3), (66, .iconst 0, 1), (67, .goto 4, 3), (70, .iconst 1, 1), (71, .istore 6, 2), (73, .iload 6, 2), (75, .iload 4, 2), (77, .if_icmp .gt 44, 3), (80, .iload_n 2, 1), (81, .ifCond .ne 12, 3), (84, .aload_n 3, 1), (85, .iload 6, 2), (87, .putfield 192, 3), (90, .goto 9, 3), (93, .aload_n 3, 1), (94, .iload 6, 2), (96, .putfield 189, 3), (99, .aload_n 0, 1), (100, .invokevirtual 278, 3), (103, .ifCond .eq 12, 3), (106, .iload 5, 2), (108, .iconst 1, 1), (109, .iload 6, 2), (111, .ishl, 1), (112, .ior, 1), (113, .istore 5, 2), (115, .iinc 6 1, 3), (118, .goto (-45), 3), (121, .iload 5, 2), (123, .ireturn, 1)])
def q_97 : pm_D := (⟨"StandUpBook", "seats", "(I)I"⟩, 11, prog_1_method_28_code, 4, (Option.some FieldType.int), [(0, .iload_n 1, 1), (1, .iconst (-1), 1), (2, .if_icmp .ge 8, 3), (5, .aload_n 0, 1), (6, .invokevirtual 239, 3), (9, .ireturn, 1), (10, .iconst 0, 1), (11, .istore_n 2, 1), (12, .iload_n 2, 1), (13, .bipush 12, 2), (15, .if_icmp .gt 43, 3), (18, .aload_n 0, 1), (19, .getfield 33, 3), (22, .iload_n 2, 1), (23, .aload_n 0, 1), (24, .getfield 78, 3), (27, .getfield 97, 3), (30, .iload_n 2, 1), (31, .invokevirtual 227, 3), (34, .iastore, 1), (35, .aload_n 0, 1), (36, .getfield 37, 3), (39, .iload_n 2, 1), (40, .aload_n 0, 1), (41, .getfield 78, 3), (44, .getfield 97, 3), (47, .iload_n 2, 1), (48, .invokevirtual 281, 3), (51, .iastore, 1), (52, .iinc 2 1, 3), (55, .goto (-43), 3), (58, .iconst 0, 1), (59, .istore_n 2, 1), (60, .iconst 0, 1), (61, .istore_n 3, 1), (62, .iload_n 3, 1), (63, .sipush 169, 3), (66, .if_icmp .ge 34, 3), (69, .aload_n 0, 1), (70, .iload_n 3, 1), (71, .bipush 13, 2), (73, .idiv, 1), (74, .iload_n 3, 1), (75, .bipush 13, 2), (77, .irem, 1), (78, .invokevirtual 284, 3), (81, .ifCond .eq 13, 3), (84, .iload_n 2, 1), (85, .iload_n 1, 1), (86, .if_icmp .ne 5, 3), (89, .iload_n 3, 1), (90, .ireturn, 1), (91, .iinc 2 1, 3), (94, .iinc 3 1, 3), (97, .goto (-35), 3), (100, .iload_n 1, 1), (101, .iconst (-1), 1), (102, .if_icmp .ne 7, 3), (105, .iload_n 2, 1), (106, .goto 5, 3), (109, .bipush (-5), 2), (111, .ireturn, 1)])
def q_98 : pm_D := (⟨"StandUpBook", "sticks", "(II)I"⟩, 11, prog_1_method_29_code, 11, (Option.some FieldType.int), [(0, .iload_n 1, 1), (1, .invokestatic 138, 3), (4, .ifCond .ne 13, 3), (7, .iload_n 2, 1), (8, .iconst 0, 1), (9, .bipush 10, 2), (11, .invokestatic 89, 3), (14, .ifCond .eq 8, 3), (17, .aload_n 0, 1), (18, .invokevirtual 93, 3), (21, .ireturn, 1), (22, .aload_n 0, 1), (23, .getfield 78, 3), (26, .getfield 97, 3), (29, .invokevirtual 287, 3), (32, .istore_n 3, 1), (33, .iload_n 3, 1), (34, .invokestatic 290, 3), (37, .istore 4, 2), (39, .lconst 0, 1), (40, .lstore 5, 2), (42, .iconst 0, 1), (43, .istore 7, 2), (45, .iload 7, 2), (47, .iload_n 3, 1), (48, .if_icmp .gt 71, 3), (51, .iload 7, 2), (53, .iload_n 3, 1), (54, .iconst (-1), 1), (55, .ixor, 1), (56, .iand, 1), (57, .ifCond .ne 56, 3), (60, .iload 7, 2), (62, .invokestatic 290, 3), (65, .istore 8, 2), (67, .iload_n 2, 1), (68, .iload 8, 2), (70, .invokestatic 295, 3), (73, .bipush 10, 2), (75, .iload_n 2, 1), (76, .isub, 1), (77, .iload 4, 2), (79, .iload 8, 2), (81, .isub, 1), (82, .invokestatic 295, 3), (85, .lmul, 1), (86, .lstore 9, 2), (88, .lload 5, 2), (90, .lload 9, 2), (92, .aload_n 0, 1), (93, .getfield 78, 3), (96, .getfield 97, 3), (99, .iload_n 1, 1), (100, .iload 7, 2), (102, .invokevirtual 154, 3), (105, .invokestatic 290, 3), (108, .i2l, 1), (109, .lmul, 1), (110, .ladd, 1), (111, .lstore 5, 2), (113, .iinc 7 1, 3), (116, .goto (-71), 3), (119, .aload_n 0, 1), (120, .lload 5, 2), (122, .bipush 10, 2), (124, .iload 4, 2), (126, .invokestatic 295, 3), (129, .invokevirtual 299, 3), (132, .iconst 1, 1), (133, .ireturn, 1)])
def q_99 : pm_D := (⟨"StandUpBook", "readers", "(II)I"⟩, 11, prog_1_method_30_code, 8, (Option.some FieldType.int), [(0, .iload_n 1, 1), (1, .iconst 0, 1), (2, .ldc_w 303, 3), (5, .invokestatic 89, 3), (8, .ifCond .ne 13, 3), (11, .iload_n 2, 1), (12, .iconst 0, 1), (13, .bipush 60, 2), (15, .invokestatic 89, 3), (18, .ifCond .eq 8, 3), (21, .aload_n 0, 1), (22, .invokevirtual 93, 3), (25, .ireturn, 1), (26, .aload_n 0, 1), (27, .getfield 85, 3), (30, .aload_n 0, 1), (31, .getfield 78, 3), (34, .getfield 97, 3), (37, .invokevirtual 134, 3), (40, .iload_n 1, 1), (41, .i2l, 1), (42, .lstore_n 3, 1), (43, .iconst 0, 1), (44, .istore 5, 2), (46, .iconst 0, 1), (47, .istore 6, 2), (49, .iload 6, 2), (51, .iload_n 2, 1), (52, .if_icmp .ge 58, 3), (55, .lload_n 3, 1), (56, .ldc2_w 304, 3), (59, .lmul, 1), (60, .ldc2_w 306, 3), (63, .ladd, 1), (64, .ldc2_w 308, 3), (67, .lrem, 1), (68, .lstore_n 3, 1), (69, .lload_n 3, 1), (70, .ldc2_w 310, 3), (73, .ldiv, 1), (74, .ldc2_w 312, 3), (77, .lrem, 1), (78, .l2i, 1), (79, .istore 7, 2), (81, .aload_n 0, 1), (82, .getfield 85, 3), (85, .iload 7, 2), (87, .invokevirtual 151, 3), (90, .iload 5, 2), (92, .aload_n 0, 1), (93, .getfield 85, 3), (96, .iload 7, 2), (98, .invokevirtual 227, 3), (101, .iadd, 1), (102, .istore 5, 2), (104, .iinc 6 1, 3), (107, .goto (-58), 3), (110, .iload 5, 2), (112, .ireturn, 1)])
def q_100 : pm_D := (⟨"StandUpBook", "part", "(I)J"⟩, 11, prog_1_method_31_code, 2, (Option.some FieldType.long), [(0, .iload_n 1, 1), (1, .lookupswitch 37 #[(0, 27), (1, 32)], 27), (28, .aload_n 0, 1), (29, .getfield 40, 3), (32, .lreturn, 1), (33, .aload_n 0, 1), (34, .getfield 44, 3), (37, .lreturn, 1), (38, .aload_n 0, 1), (39, .invokevirtual 93, 3), (42, .i2l, 1), (43, .lreturn, 1)])
def q_101 : pm_D := (⟨"StandUpBook", "image", "(I)I"⟩, 11, prog_1_method_32_code, 2, (Option.some FieldType.int), [(0, .iload_n 1, 1), (1, .iconst 0, 1), (2, .iconst 1, 1), (3, .invokestatic 89, 3), (6, .ifCond .eq 8, 3), (9, .aload_n 0, 1), (10, .invokevirtual 93, 3), (13, .ireturn, 1), (14, .aload_n 0, 1), (15, .getfield 11, 3), (18, .iload_n 1, 1), (19, .aaload, 1), (20, .aload_n 0, 1), (21, .getfield 78, 3), (24, .invokevirtual 314, 3), (27, .aload_n 0, 1), (28, .getfield 15, 3), (31, .iload_n 1, 1), (32, .iconst 1, 1), (33, .bastore, 1), (34, .iconst 1, 1), (35, .ireturn, 1)])
def q_102 : pm_D := (⟨"StandUpBook", "from", "(I)I"⟩, 11, prog_1_method_33_code, 2, (Option.some FieldType.int), [(0, .iload_n 1, 1), (1, .iconst 0, 1), (2, .iconst 1, 1), (3, .invokestatic 89, 3), (6, .ifCond .eq 8, 3), (9, .aload_n 0, 1), (10, .invokevirtual 93, 3), (13, .ireturn, 1), (14, .aload_n 0, 1), (15, .getfield 15, 3), (18, .iload_n 1, 1), (19, .baload, 1), (20, .ifCond .ne 8, 3), (23, .aload_n 0, 1), (24, .invokevirtual 145, 3), (27, .ireturn, 1), (28, .aload_n 0, 1), (29, .getfield 78, 3), (32, .aload_n 0, 1), (33, .getfield 11, 3), (36, .iload_n 1, 1), (37, .aaload, 1), (38, .invokevirtual 314, 3), (41, .iconst 1, 1), (42, .ireturn, 1)])
def q_103 : pm_D := (⟨"StandUpBook", "status", "(I)I"⟩, 11, prog_1_method_34_code, 2, (Option.some FieldType.int), [(0, .iload_n 1, 1), (1, .tableswitch 42 0 2 #[27, 32, 37], 27), (28, .aload_n 0, 1), (29, .getfield 47, 3), (32, .ireturn, 1), (33, .aload_n 0, 1), (34, .getfield 51, 3), (37, .ireturn, 1), (38, .aload_n 0, 1), (39, .getfield 54, 3), (42, .ireturn, 1), (43, .aload_n 0, 1), (44, .dup, 1), (45, .getfield 47, 3), (48, .iconst 1, 1), (49, .iadd, 1), (50, .putfield 47, 3), (53, .iconst (-1), 1), (54, .ireturn, 1)])
def q_104 : pm_D := (⟨"StandUpBook", "count", "(I)I"⟩, 11, prog_1_method_35_code, 3, (Option.some FieldType.int), [(0, .aload_n 0, 1), (1, .getfield 78, 3), (4, .getfield 97, 3), (7, .astore_n 2, 1), (8, .iload_n 1, 1), (9, .tableswitch 133 0 9 #[55, 60, 65, 70, 83, 96, 101, 109, 117, 125], 55), (64, .aload_n 2, 1), (65, .getfield 100, 3), (68, .ireturn, 1), (69, .aload_n 2, 1), (70, .getfield 142, 3), (73, .ireturn, 1), (74, .aload_n 2, 1), (75, .getfield 131, 3), (78, .ireturn, 1), (79, .aload_n 2, 1), (80, .aload_n 2, 1), (81, .getfield 142, 3), (84, .iconst 0, 1), (85, .invokevirtual 154, 3), (88, .invokestatic 290, 3), (91, .ireturn, 1), (92, .aload_n 2, 1), (93, .getfield 100, 3), (96, .aload_n 2, 1), (97, .invokevirtual 287, 3), (100, .invokestatic 290, 3), (103, .isub, 1), (104, .ireturn, 1), (105, .aload_n 2, 1), (106, .invokevirtual 317, 3), (109, .ireturn, 1), (110, .aload_n 0, 1), (111, .getfield 78, 3), (114, .getfield 170, 3), (117, .ireturn, 1), (118, .aload_n 0, 1), (119, .getfield 78, 3), (122, .getfield 173, 3), (125, .ireturn, 1), (126, .aload_n 0, 1), (127, .getfield 78, 3), (130, .getfield 114, 3), (133, .ireturn, 1), (134, .aload_n 0, 1), (135, .getfield 22, 3), (138, .getfield 121, 3), (141, .ireturn, 1), (142, .aload_n 0, 1), (143, .invokevirtual 93, 3), (146, .ireturn, 1)])
def q_105 : pm_D := (⟨"StandUpBook", "digest", "()J"⟩, 11, prog_1_method_36_code, 4, (Option.some FieldType.long), [(0, .ldc2_w 320, 3), (3, .lstore_n 1, 1), (4, .iconst 0, 1), (5, .istore_n 3, 1), (6, .iload_n 3, 1), (7, .bipush 10, 2), (9, .if_icmp .ge 20, 3), (12, .lload_n 1, 1), (13, .aload_n 0, 1), (14, .iload_n 3, 1), (15, .invokevirtual 322, 3), (18, .i2l, 1), (19, .invokestatic 325, 3), (22, .lstore_n 1, 1), (23, .iinc 3 1, 3), (26, .goto (-20), 3), (29, .aload_n 0, 1), (30, .getfield 78, 3), (33, .getfield 97, 3), (36, .lload_n 1, 1), (37, .invokevirtual 329, 3), (40, .lstore_n 1, 1), (41, .lload_n 1, 1), (42, .aload_n 0, 1), (43, .getfield 78, 3), (46, .getfield 265, 3), (49, .aload_n 0, 1), (50, .getfield 78, 3), (53, .getfield 170, 3), (56, .invokestatic 333, 3), (59, .lstore_n 1, 1), (60, .lload_n 1, 1), (61, .aload_n 0, 1), (62, .getfield 78, 3), (65, .getfield 269, 3), (68, .aload_n 0, 1), (69, .getfield 78, 3), (72, .getfield 173, 3), (75, .invokestatic 333, 3), (78, .lstore_n 1, 1), (79, .lload_n 1, 1), (80, .aload_n 0, 1), (81, .getfield 40, 3), (84, .invokestatic 325, 3), (87, .aload_n 0, 1), (88, .getfield 44, 3), (91, .invokestatic 325, 3), (94, .lreturn, 1)])
def q_106 : pm_D := (⟨"StandUpBook", "refuseBad", "()I"⟩, 11, prog_1_method_37_code, 1, (Option.some FieldType.int), [(0, .aload_n 0, 1), (1, .dup, 1), (2, .getfield 47, 3), (5, .iconst 1, 1), (6, .iadd, 1), (7, .putfield 47, 3), (10, .bipush (-2), 2), (12, .ireturn, 1)])
def q_107 : pm_D := (⟨"StandUpBook", "refuseBadElsewhere", "()I"⟩, 11, prog_1_method_38_code, 1, (Option.some FieldType.int), [(0, .aload_n 0, 1), (1, .dup, 1), (2, .getfield 47, 3), (5, .iconst 1, 1), (6, .iadd, 1), (7, .putfield 47, 3), (10, .bipush (-10), 2), (12, .ireturn, 1)])
def q_108 : pm_D := (⟨"StandUpBook", "refuseNo", "()I"⟩, 11, prog_1_method_39_code, 1, (Option.some FieldType.int), [(0, .aload_n 0, 1), (1, .dup, 1), (2, .getfield 51, 3), (5, .iconst 1, 1), (6, .iadd, 1), (7, .putfield 51, 3), (10, .bipush (-3), 2), (12, .ireturn, 1)])
def q_109 : pm_D := (⟨"StandUpBook", "refuseFull", "()I"⟩, 11, prog_1_method_40_code, 1, (Option.some FieldType.int), [(0, .aload_n 0, 1), (1, .dup, 1), (2, .getfield 54, 3), (5, .iconst 1, 1), (6, .iadd, 1), (7, .putfield 54, 3), (10, .bipush (-4), 2), (12, .ireturn, 1)])
def q_110 : pm_D := (⟨"StandUpBook", "isNoPiece", "(I)Z"⟩, 11, prog_1_method_41_code, 2, (Option.some FieldType.boolean), [(0, .iload_n 1, 1), (1, .iconst 0, 1), (2, .aload_n 0, 1), (3, .getfield 78, 3), (6, .getfield 97, 3), (9, .getfield 100, 3), (12, .iconst 1, 1), (13, .isub, 1), (14, .invokestatic 89, 3), (17, .ireturn, 1)])
def q_111 : pm_D := (⟨"StandUpBook", "areNoPieces", "(I)Z"⟩, 11, prog_1_method_42_code, 2, (Option.some FieldType.boolean), [(0, .iload_n 1, 1), (1, .iconst 0, 1), (2, .iconst 1, 1), (3, .aload_n 0, 1), (4, .getfield 78, 3), (7, .getfield 97, 3), (10, .getfield 100, 3), (13, .ishl, 1), (14, .iconst 1, 1), (15, .isub, 1), (16, .invokestatic 89, 3), (19, .ireturn, 1)])
def q_112 : pm_D := (⟨"StandUpBook", "isNoOpening", "(I)Z"⟩, 11, prog_1_method_43_code, 1, (Option.some FieldType.boolean), [(0, .iload_n 0, 1), (1, .iconst 0, 1), (2, .bipush 12, 2), (4, .invokestatic 89, 3), (7, .ireturn, 1)])
def q_113 : pm_D := (⟨"StandUpBook", "outside", "(III)Z"⟩, 11, prog_1_method_44_code, 3, (Option.some FieldType.boolean), [(0, .iload_n 0, 1), (1, .iload_n 1, 1), (2, .if_icmp .lt 8, 3), (5, .iload_n 0, 1), (6, .iload_n 2, 1), (7, .if_icmp .le 7, 3), (10, .iconst 1, 1), (11, .goto 4, 3), (14, .iconst 0, 1), (15, .ireturn, 1)])
def q_114 : pm_D := (⟨"StandUpBook", "has", "(II)Z"⟩, 11, prog_1_method_45_code, 2, (Option.some FieldType.boolean), [(0, .iload_n 0, 1), (1, .iload_n 1, 1), (2, .ishr, 1), (3, .iconst 1, 1), (4, .iand, 1), (5, .ifCond .eq 7, 3), (8, .iconst 1, 1), (9, .goto 4, 3), (12, .iconst 0, 1), (13, .ireturn, 1)])
def q_115 : pm_D := (⟨"StandUpBook", "openingsThatShow", "(I)I"⟩, 11, prog_1_method_46_code, 4, (Option.some FieldType.int), [(0, .iconst 0, 1), (1, .istore_n 2, 1), (2, .iconst 0, 1), (3, .istore_n 3, 1), (4, .iload_n 3, 1), (5, .bipush 12, 2), (7, .if_icmp .gt 34, 3), (10, .aload_n 0, 1), (11, .getfield 78, 3), (14, .getfield 97, 3), (17, .iload_n 3, 1), (18, .iconst 0, 1), (19, .invokevirtual 154, 3), (22, .iload_n 1, 1), (23, .invokestatic 223, 3), (26, .ifCond .eq 9, 3), (29, .iload_n 2, 1), (30, .iconst 1, 1), (31, .iload_n 3, 1), (32, .ishl, 1), (33, .ior, 1), (34, .istore_n 2, 1), (35, .iinc 3 1, 3), (38, .goto (-34), 3), (41, .iload_n 2, 1), (42, .ireturn, 1)])
def q_116 : pm_D := (⟨"StandUpBook", "winningStep", "(IIII)I"⟩, 11, prog_1_method_47_code, 6, (Option.some FieldType.int), [(0, .iload_n 3, 1), (1, .ifCond .gt 5, 3), (4, .iconst (-1), 1), (5, .ireturn, 1), (6, .bipush 12, 2), (8, .iload_n 0, 1), (9, .iconst 2, 1), (10, .iadd, 1), (11, .invokestatic 337, 3), (14, .istore 4, 2), (16, .iconst 0, 1), (17, .iload_n 0, 1), (18, .iconst 2, 1), (19, .isub, 1), (20, .invokestatic 342, 3), (23, .istore 5, 2), (25, .iload 5, 2), (27, .iload 4, 2), (29, .if_icmp .gt 52, 3), (32, .iload_n 1, 1), (33, .iload 5, 2), (35, .invokestatic 223, 3), (38, .ifCond .eq 6, 3), (41, .goto 34, 3), (44, .iload_n 2, 1), (45, .iload 5, 2), (47, .invokestatic 223, 3), (50, .ifCond .ne 22, 3), (53, .iload 5, 2), (55, .iload_n 1, 1), (56, .iconst 1, 1), (57, .iload 5, 2), (59, .ishl, 1), (60, .ior, 1), (61, .iload_n 2, 1), (62, .iload_n 3, 1), (63, .iconst 1, 1), (64, .isub, 1), (65, .invokestatic 261, 3), (68, .iconst (-1), 1), (69, .if_icmp .ne 6, 3), (72, .iload 5, 2), (74, .ireturn, 1), (75, .iinc 5 1, 3), (78, .goto (-53), 3), (81, .iconst (-1), 1), (82, .ireturn, 1)])
def q_117 : pm_D := (⟨"StandUpBook", "kindsThatFit", "(I)I"⟩, 11, prog_1_method_48_code, 4, (Option.some FieldType.int), [(0, .iconst 0, 1), (1, .istore_n 2, 1), (2, .iconst 0, 1), (3, .istore_n 3, 1), (4, .iload_n 3, 1), (5, .bipush 6, 2), (7, .if_icmp .ge 24, 3), (10, .aload_n 0, 1), (11, .iload_n 3, 1), (12, .iload_n 1, 1), (13, .invokevirtual 345, 3), (16, .ifCond .eq 9, 3), (19, .iload_n 2, 1), (20, .iconst 1, 1), (21, .iload_n 3, 1), (22, .ishl, 1), (23, .ior, 1), (24, .istore_n 2, 1), (25, .iinc 3 1, 3), (28, .goto (-24), 3), (31, .iload_n 2, 1), (32, .ireturn, 1)])
def q_118 : pm_D := (⟨"StandUpBook", "fitsNotes", "(II)Z"⟩, 11, prog_1_method_49_code, 5, (Option.some FieldType.boolean), [(0, .iconst 0, 1), (1, .istore_n 3, 1), (2, .iload_n 3, 1), (3, .aload_n 0, 1), (4, .getfield 78, 3), (7, .getfield 170, 3), (10, .if_icmp .ge 64, 3), (13, .aload_n 0, 1), (14, .getfield 78, 3), (17, .getfield 265, 3), (20, .iload_n 3, 1), (21, .aaload, 1), (22, .astore 4, 2), (24, .aload 4, 2), (26, .iconst 0, 1), (27, .iaload, 1), (28, .iload_n 2, 1), (29, .if_icmp .ne 39, 3), (32, .aload_n 0, 1), (33, .getfield 78, 3), (36, .getfield 97, 3), (39, .getfield 348, 3), (42, .iload_n 1, 1), (43, .aaload, 1), (44, .aload 4, 2), (46, .iconst 1, 1), (47, .iaload, 1), (48, .aload 4, 2), (50, .iconst 2, 1), (51, .iaload, 1), (52, .aload 4, 2), (54, .iconst 3, 1), (55, .iaload, 1), (56, .invokevirtual 352, 3), (59, .aload 4, 2), (61, .iconst 4, 1), (62, .iaload, 1), (63, .if_icmp .eq 5, 3), (66, .iconst 0, 1), (67, .ireturn, 1), (68, .iinc 3 1, 3), (71, .goto (-69), 3), (74, .iconst 1, 1), (75, .ireturn, 1)])
def q_119 : pm_D := (⟨"StandUpBook", "mostAlike", "(IIII)I"⟩, 11, prog_1_method_50_code, 8, (Option.some FieldType.int), [(0, .iconst 0, 1), (1, .istore 5, 2), (3, .iconst 0, 1), (4, .istore 6, 2), (6, .iload 6, 2), (8, .bipush 6, 2), (10, .if_icmp .ge 58, 3), (13, .iload_n 1, 1), (14, .iload 6, 2), (16, .invokestatic 223, 3), (19, .ifCond .eq 43, 3), (22, .aload_n 0, 1), (23, .getfield 78, 3), (26, .getfield 97, 3), (29, .getfield 348, 3), (32, .iload 6, 2), (34, .aaload, 1), (35, .iload_n 2, 1), (36, .iload_n 3, 1), (37, .iload 4, 2), (39, .invokevirtual 352, 3), (42, .istore 7, 2), (44, .iload 5, 2), (46, .aload_n 0, 1), (47, .iload 7, 2), (49, .iload_n 1, 1), (50, .iload_n 2, 1), (51, .iload_n 3, 1), (52, .iload 4, 2), (54, .invokevirtual 355, 3), (57, .invokestatic 342, 3), (60, .istore 5, 2), (62, .iinc 6 1, 3), (65, .goto (-59), 3), (68, .iload 5, 2), (70, .ireturn, 1)])
def q_120 : pm_D := (⟨"StandUpBook", "manyThatRise", "(IIIII)I"⟩, 11, prog_1_method_51_code, 8, (Option.some FieldType.int), [(0, .iconst 0, 1), (1, .istore 6, 2), (3, .iconst 0, 1), (4, .istore 7, 2), (6, .iload 7, 2), (8, .bipush 6, 2), (10, .if_icmp .ge 46, 3), (13, .iload_n 2, 1), (14, .iload 7, 2), (16, .invokestatic 223, 3), (19, .ifCond .eq 31, 3), (22, .aload_n 0, 1), (23, .getfield 78, 3), (26, .getfield 97, 3), (29, .getfield 348, 3), (32, .iload 7, 2), (34, .aaload, 1), (35, .iload_n 3, 1), (36, .iload 4, 2), (38, .iload 5, 2), (40, .invokevirtual 352, 3), (43, .iload_n 1, 1), (44, .if_icmp .ne 6, 3), (47, .iinc 6 1, 3), (50, .iinc 7 1, 3), (53, .goto (-47), 3), (56, .iload 6, 2), (58, .ireturn, 1)])
def q_121 : pm_D := (⟨"StandUpBook", "trialStandsSo", "()Z"⟩, 11, prog_1_method_52_code, 3, (Option.some FieldType.boolean), [(0, .iconst 0, 1), (1, .istore_n 1, 1), (2, .iload_n 1, 1), (3, .aload_n 0, 1), (4, .getfield 78, 3), (7, .getfield 173, 3), (10, .if_icmp .ge 38, 3), (13, .aload_n 0, 1), (14, .getfield 78, 3), (17, .getfield 269, 3), (20, .iload_n 1, 1), (21, .aaload, 1), (22, .astore_n 2, 1), (23, .aload_n 0, 1), (24, .getfield 85, 3), (27, .aload_n 2, 1), (28, .iconst 0, 1), (29, .iaload, 1), (30, .iconst 0, 1), (31, .invokevirtual 154, 3), (34, .aload_n 2, 1), (35, .iconst 1, 1), (36, .iaload, 1), (37, .if_icmp .eq 5, 3), (40, .iconst 0, 1), (41, .ireturn, 1), (42, .iinc 1 1, 3), (45, .goto (-43), 3), (48, .iconst 1, 1), (49, .ireturn, 1)])
def q_122 : pm_D := (⟨"StandUpBook", "rests", "(II)Z"⟩, 11, prog_1_method_53_code, 4, (Option.some FieldType.boolean), [(0, .iconst 0, 1), (1, .istore_n 3, 1), (2, .iload_n 3, 1), (3, .bipush 12, 2), (5, .if_icmp .gt 41, 3), (8, .aload_n 0, 1), (9, .iload_n 3, 1), (10, .iload_n 2, 1), (11, .invokevirtual 358, 3), (14, .aload_n 0, 1), (15, .iload_n 1, 1), (16, .iload_n 2, 1), (17, .invokevirtual 358, 3), (20, .if_icmp .gt 18, 3), (23, .aload_n 0, 1), (24, .iload_n 1, 1), (25, .iload_n 3, 1), (26, .invokevirtual 361, 3), (29, .aload_n 0, 1), (30, .iload_n 1, 1), (31, .iload_n 2, 1), (32, .invokevirtual 361, 3), (35, .if_icmp .le 5, 3), (38, .iconst 0, 1), (39, .ireturn, 1), (40, .iinc 3 1, 3), (43, .goto (-41), 3), (46, .iconst 1, 1), (47, .ireturn, 1)])
def q_123 : pm_D := (⟨"StandUpBook", "firstGets", "(II)I"⟩, 11, prog_1_method_54_code, 3, (Option.some FieldType.int), [(0, .aload_n 0, 1), (1, .getfield 33, 3), (4, .iload_n 1, 1), (5, .iload_n 2, 1), (6, .invokestatic 342, 3), (9, .iaload, 1), (10, .iload_n 1, 1), (11, .iconst 4, 1), (12, .idiv, 1), (13, .isub, 1), (14, .ireturn, 1)])
def q_124 : pm_D := (⟨"StandUpBook", "secondGets", "(II)I"⟩, 11, prog_1_method_55_code, 3, (Option.some FieldType.int), [(0, .aload_n 0, 1), (1, .getfield 37, 3), (4, .iload_n 1, 1), (5, .iload_n 2, 1), (6, .invokestatic 342, 3), (9, .iaload, 1), (10, .iload_n 2, 1), (11, .iconst 4, 1), (12, .idiv, 1), (13, .isub, 1), (14, .ireturn, 1)])
def q_125 : pm_D := (⟨"StandUpBook", "power", "(II)J"⟩, 11, prog_1_method_56_code, 5, (Option.some FieldType.long), [(0, .lconst 1, 1), (1, .lstore_n 2, 1), (2, .iconst 0, 1), (3, .istore 4, 2), (5, .iload 4, 2), (7, .iload_n 1, 1), (8, .if_icmp .ge 14, 3), (11, .lload_n 2, 1), (12, .iload_n 0, 1), (13, .i2l, 1), (14, .lmul, 1), (15, .lstore_n 2, 1), (16, .iinc 4 1, 3), (19, .goto (-14), 3), (22, .lload_n 2, 1), (23, .lreturn, 1)])
def q_126 : pm_D := (⟨"StandUpBook", "keepFraction", "(JJ)V"⟩, 11, prog_1_method_57_code, 7, (Option.none : Option FieldType), [(0, .lload_n 1, 1), (1, .lload_n 3, 1), (2, .invokestatic 364, 3), (5, .lstore 5, 2), (7, .lload 5, 2), (9, .lconst 0, 1), (10, .lcmp, 1), (11, .ifCond .le 19, 3), (14, .aload_n 0, 1), (15, .lload_n 1, 1), (16, .lload 5, 2), (18, .ldiv, 1), (19, .putfield 40, 3), (22, .aload_n 0, 1), (23, .lload_n 3, 1), (24, .lload 5, 2), (26, .ldiv, 1), (27, .putfield 44, 3), (30, .return_, 1)])
def q_127 : pm_D := (⟨"StandUpBook", "commonDivisor", "(JJ)J"⟩, 11, prog_1_method_58_code, 11, (Option.some FieldType.long), [(0, .lload_n 0, 1), (1, .lstore 4, 2), (3, .lload_n 2, 1), (4, .lstore 6, 2), (6, .sipush 128, 3), (9, .istore 8, 2), (11, .iload 8, 2), (13, .ifCond .le 31, 3), (16, .lload 6, 2), (18, .lconst 0, 1), (19, .lcmp, 1), (20, .ifCond .eq 24, 3), (23, .lload 4, 2), (25, .lload 6, 2), (27, .lrem, 1), (28, .lstore 9, 2), (30, .lload 6, 2), (32, .lstore 4, 2), (34, .lload 9, 2), (36, .lstore 6, 2), (38, .iinc 8 (-1), 3), (41, .goto (-30), 3), (44, .lload 4, 2), (46, .lreturn, 1)])
def q_128 : pm_D := (⟨"StandUpBook", "mixed", "(JJ)J"⟩, 11, prog_1_method_59_code, 4, (Option.some FieldType.long), [(0, .ldc2_w 367, 3), (3, .lload_n 0, 1), (4, .lmul, 1), (5, .lload_n 2, 1), (6, .ladd, 1), (7, .lreturn, 1)])
def q_129 : pm_D := (⟨"StandUpBook", "mixedRows", "(J[[II)J"⟩, 11, prog_1_method_60_code, 11, (Option.some FieldType.long), [(0, .lload_n 0, 1), (1, .lstore 4, 2), (3, .iconst 0, 1), (4, .istore 6, 2), (6, .iload 6, 2), (8, .iload_n 3, 1), (9, .if_icmp .ge 53, 3), (12, .aload_n 2, 1), (13, .iload 6, 2), (15, .aaload, 1), (16, .astore 7, 2), (18, .aload 7, 2), (20, .arraylength, 1), (21, .istore 8, 2), (23, .iconst 0, 1), (24, .istore 9, 2), (26, .iload 9, 2), (28, .iload 8, 2), (30, .if_icmp .ge 26, 3), (33, .aload 7, 2), (35, .iload 9, 2), (37, .iaload, 1), (38, .istore 10, 2), (40, .lload 4, 2), (42, .iload 10, 2), (44, .i2l, 1), (45, .invokestatic 325, 3), (48, .lstore 4, 2), (50, .iinc 9 1, 3), (53, .goto (-27), 3), (56, .iinc 6 1, 3), (59, .goto (-53), 3), (62, .lload 4, 2), (64, .lreturn, 1)])
def q_130 : pm_D := (⟨"StandUpBookModel", "bad", "()I"⟩, 12, prog_14_method_1_code, 1, (Option.some FieldType.int), [(0, .aload_n 0, 1), (1, .getfield 1, 3), (4, .iconst 0, 1), (5, .dup2, 1), (6, .iaload, 1), (7, .iconst 1, 1), (8, .iadd, 1), (9, .iastore, 1), (10, .bipush (-2), 2), (12, .ireturn, 1)])
def q_131 : pm_D := (⟨"StandUpBookModel", "ten", "()I"⟩, 12, prog_14_method_2_code, 1, (Option.some FieldType.int), [(0, .aload_n 0, 1), (1, .getfield 1, 3), (4, .iconst 0, 1), (5, .dup2, 1), (6, .iaload, 1), (7, .iconst 1, 1), (8, .iadd, 1), (9, .iastore, 1), (10, .bipush (-10), 2), (12, .ireturn, 1)])
def q_132 : pm_D := (⟨"StandUpBookModel", "no", "()I"⟩, 12, prog_14_method_3_code, 1, (Option.some FieldType.int), [(0, .aload_n 0, 1), (1, .getfield 1, 3), (4, .iconst 1, 1), (5, .dup2, 1), (6, .iaload, 1), (7, .iconst 1, 1), (8, .iadd, 1), (9, .iastore, 1), (10, .bipush (-3), 2), (12, .ireturn, 1)])
def q_133 : pm_D := (⟨"StandUpBookModel", "full", "()I"⟩, 12, prog_14_method_4_code, 1, (Option.some FieldType.int), [(0, .aload_n 0, 1), (1, .getfield 1, 3), (4, .iconst 2, 1), (5, .dup2, 1), (6, .iaload, 1), (7, .iconst 1, 1), (8, .iadd, 1), (9, .iastore, 1), (10, .bipush (-4), 2), (12, .ireturn, 1)])
def q_134 : pm_D := (⟨"StandUpBookModel", "in", "(III)Z"⟩, 12, prog_14_method_5_code, 3, (Option.some FieldType.boolean), [(0, .iload_n 0, 1), (1, .iload_n 1, 1), (2, .if_icmp .lt 12, 3), (5, .iload_n 0, 1), (6, .iload_n 2, 1), (7, .if_icmp .gt 7, 3), (10, .iconst 1, 1), (11, .goto 4, 3), (14, .iconst 0, 1), (15, .ireturn, 1)])
def q_135 : pm_D := (⟨"StandUpBookModel", "has", "(II)Z"⟩, 12, prog_14_method_6_code, 2, (Option.some FieldType.boolean), [(0, .iload_n 0, 1), (1, .iload_n 1, 1), (2, .ishr, 1), (3, .iconst 1, 1), (4, .iand, 1), (5, .iconst 1, 1), (6, .if_icmp .ne 7, 3), (9, .iconst 1, 1), (10, .goto 4, 3), (13, .iconst 0, 1), (14, .ireturn, 1)])
def q_136 : pm_D := (⟨"StandUpBookModel", "lesser", "(II)I"⟩, 12, prog_14_method_7_code, 2, (Option.some FieldType.int), [(0, .iload_n 0, 1), (1, .iload_n 1, 1), (2, .if_icmp .ge 7, 3), (5, .iload_n 0, 1), (6, .goto 4, 3), (9, .iload_n 1, 1), (10, .ireturn, 1)])
def q_137 : pm_D := (⟨"StandUpBookModel", "greater", "(II)I"⟩, 12, prog_14_method_8_code, 2, (Option.some FieldType.int), [(0, .iload_n 0, 1), (1, .iload_n 1, 1), (2, .if_icmp .le 7, 3), (5, .iload_n 0, 1), (6, .goto 4, 3), (9, .iload_n 1, 1), (10, .ireturn, 1)])
def q_138 : pm_D := (⟨"StandUpBookModel", "bits", "(I)I"⟩, 12, prog_14_method_9_code, 3, (Option.some FieldType.int), [(0, .iconst 0, 1), (1, .istore_n 1, 1), (2, .iconst 0, 1), (3, .istore_n 2, 1), (4, .iload_n 2, 1), (5, .bipush 13, 2), (7, .if_icmp .ge 17, 3), (10, .iload_n 1, 1), (11, .iload_n 0, 1), (12, .iload_n 2, 1), (13, .ishr, 1), (14, .iconst 1, 1), (15, .iand, 1), (16, .iadd, 1), (17, .istore_n 1, 1), (18, .iinc 2 1, 3), (21, .goto (-17), 3), (24, .iload_n 1, 1), (25, .ireturn, 1)])
def q_139 : pm_D := (⟨"StandUpBookModel", "<init>", "()V"⟩, 12, prog_14_method_10_code, 1, (Option.none : Option FieldType), [(0, .aload_n 0, 1), (1, .invokespecial 7, 3), (4, .aload_n 0, 1), (5, .iconst 3, 1), (6, .newarray .int, 2), (8, .putfield 1, 3), (11, .aload_n 0, 1), (12, .bipush 7, 2), (14, .newarray .int, 2), (16, .putfield 13, 3), (19, .aload_n 0, 1), (20, .bipush 7, 2), (22, .newarray .int, 2), (24, .putfield 16, 3), (27, .aload_n 0, 1), (28, .bipush 7, 2), (30, .newarray .int, 2), (32, .putfield 19, 3), (35, .aload_n 0, 1), (36, .bipush 7, 2), (38, .newarray .int, 2), (40, .putfield 22, 3), (43, .aload_n 0, 1), (44, .bipush 7, 2), (46, .newarray .int, 2), (48, .putfield 25, 3), (51, .aload_n 0, 1), (52, .bipush 7, 2), (54, .newarray .int, 2), (56, .putfield 28, 3), (59, .aload_n 0, 1), (60, .bipush 7, 2), (62, .newarray .int, 2), (64, .putfield 31, 3), (67, .aload_n 0, 1), (68, .bipush 30, 2), (70, .newarray .int, 2), (72, .putfield 34, 3), (75, .aload_n 0, 1), (76, .bipush 6, 2), (78, .newarray .int, 2), (80, .putfield 37, 3), (83, .aload_n 0, 1), (84, .bipush 6, 2), (86, .newarray .int, 2), (88, .putfield 40, 3), (91, .aload_n 0, 1), (92, .sipush 150, 3), (95, .newarray .int, 2), (97, .putfield 43, 3), (100, .aload_n 0, 1), (101, .iconst 5, 1), (102, .newarray .int, 2), (104, .putfield 46, 3), (107, .aload_n 0, 1), (108, .sipush 420, 3), (111, .newarray .int, 2), (113, .putfield 49, 3), (116, .aload_n 0, 1), (117, .bipush 7, 2), (119, .newarray .int, 2), (121, .putfield 52, 3), (124, .aload_n 0, 1), (125, .sipush 312, 3), (128, .newarray .int, 2), (130, .putfield 55, 3), (133, .aload_n 0, 1), (134, .bipush 52, 2), (136, .newarray .int, 2), (138, .putfield 58, 3), (141, .aload_n 0, 1), (142, .bipush 7, 2), (144, .newarray .int, 2), (146, .putfield 61, 3), (149, .aload_n 0, 1), (150, .bipush 13, 2), (152, .newarray .int, 2), (154, .putfield 64, 3), (157, .aload_n 0, 1), (158, .bipush 40, 2), (160, .newarray .int, 2), (162, .putfield 67, 3), (165, .aload_n 0, 1), (166, .bipush 40, 2), (168, .newarray .int, 2), (170, .putfield 70, 3), (173, .aload_n 0, 1), (174, .sipush 8192, 3), (177, .newarray .int, 2), (179, .putfield 73, 3), (182, .aload_n 0, 1), (183, .bipush 13, 2), (185, .newarray .int, 2), (187, .putfield 76, 3), (190, .aload_n 0, 1), (191, .bipush 13, 2), (193, .newarray .int, 2), (195, .putfield 79, 3), (198, .aload_n 0, 1), (199, .lconst 1, 1), (200, .putfield 82, 3), (203, .aload_n 0, 1), (204, .sipush 840, 3), (207, .newarray .int, 2), (209, .putfield 86, 3), (212, .aload_n 0, 1), (213, .iconst 2, 1), (214, .newarray .int, 2), (216, .putfield 89, 3), (219, .aload_n 0, 1), (220, .bipush 20, 2), (222, .invokevirtual 92, 3), (225, .return_, 1)])
def q_140 : pm_D := (⟨"StandUpBookModel", "begin", "(I)V"⟩, 12, prog_14_method_11_code, 2, (Option.none : Option FieldType), [(0, .aload_n 0, 1), (1, .iconst 0, 1), (2, .putfield 96, 3), (5, .aload_n 0, 1), (6, .iconst 0, 1), (7, .putfield 100, 3), (10, .aload_n 0, 1), (11, .iload_n 1, 1), (12, .putfield 103, 3), (15, .aload_n 0, 1), (16, .iconst 0, 1), (17, .putfield 106, 3), (20, .aload_n 0, 1), (21, .iconst 0, 1), (22, .putfield 109, 3), (25, .aload_n 0, 1), (26, .iconst 0, 1), (27, .putfield 112, 3), (30, .return_, 1)])
def q_141 : pm_D := (⟨"StandUpBookModel", "isPiece", "(I)Z"⟩, 12, prog_14_method_12_code, 2, (Option.some FieldType.boolean), [(0, .iload_n 1, 1), (1, .iconst 0, 1), (2, .aload_n 0, 1), (3, .getfield 96, 3), (6, .iconst 1, 1), (7, .isub, 1), (8, .invokestatic 115, 3), (11, .ireturn, 1)])
def q_142 : pm_D := (⟨"StandUpBookModel", "isOpening", "(I)Z"⟩, 12, prog_14_method_13_code, 1, (Option.some FieldType.boolean), [(0, .iload_n 0, 1), (1, .iconst 0, 1), (2, .bipush 12, 2), (4, .invokestatic 115, 3), (7, .ireturn, 1)])
def q_143 : pm_D := (⟨"StandUpBookModel", "isSet", "(I)Z"⟩, 12, prog_14_method_14_code, 2, (Option.some FieldType.boolean), [(0, .iload_n 1, 1), (1, .iconst 0, 1), (2, .iconst 1, 1), (3, .aload_n 0, 1), (4, .getfield 96, 3), (7, .ishl, 1), (8, .iconst 1, 1), (9, .isub, 1), (10, .invokestatic 115, 3), (13, .ireturn, 1)])
def q_144 : pm_D := (⟨"StandUpBookModel", "book", "(I)I"⟩, 12, prog_14_method_15_code, 3, (Option.some FieldType.int), [(0, .iload_n 1, 1), (1, .bipush 6, 2), (3, .bipush 40, 2), (5, .invokestatic 115, 3), (8, .ifCond .ne 8, 3), (11, .aload_n 0, 1), (12, .invokevirtual 119, 3), (15, .ireturn, 1), (16, .aload_n 0, 1), (17, .getfield 96, 3), (20, .istore_n 2, 1), (21, .aload_n 0, 1), (22, .iload_n 1, 1), (23, .invokevirtual 92, 3), (26, .iload_n 2, 1), (27, .ireturn, 1)])
def q_145 : pm_D := (⟨"StandUpBookModel", "addPiece", "(IIIII)I"⟩, 12, prog_14_method_16_code, 6, (Option.some FieldType.int), [(0, .aload_n 0, 1), (1, .getfield 13, 3), (4, .aload_n 0, 1), (5, .getfield 96, 3), (8, .iload_n 1, 1), (9, .iastore, 1), (10, .aload_n 0, 1), (11, .getfield 16, 3), (14, .aload_n 0, 1), (15, .getfield 96, 3), (18, .iload_n 2, 1), (19, .iastore, 1), (20, .aload_n 0, 1), (21, .getfield 19, 3), (24, .aload_n 0, 1), (25, .getfield 96, 3), (28, .iload_n 3, 1), (29, .iastore, 1), (30, .aload_n 0, 1), (31, .getfield 22, 3), (34, .aload_n 0, 1), (35, .getfield 96, 3), (38, .iload 4, 2), (40, .iastore, 1), (41, .aload_n 0, 1), (42, .getfield 25, 3), (45, .aload_n 0, 1), (46, .getfield 96, 3), (49, .iload 5, 2), (51, .iastore, 1), (52, .aload_n 0, 1), (53, .getfield 28, 3), (56, .aload_n 0, 1), (57, .getfield 96, 3), (60, .iconst 0, 1), (61, .iastore, 1), (62, .aload_n 0, 1), (63, .getfield 31, 3), (66, .aload_n 0, 1), (67, .getfield 96, 3), (70, .iconst 0, 1), (71, .iastore, 1), (72, .aload_n 0, 1), (73, .dup, 1), (74, .getfield 96, 3), (77, .iconst 1, 1), (78, .iadd, 1), (79, .putfield 96, 3), (82, .aload_n 0, 1), (83, .iconst 0, 1), (84, .putfield 112, 3), (87, .aload_n 0, 1), (88, .getfield 96, 3), (91, .iconst 1, 1), (92, .isub, 1), (93, .ireturn, 1)])
def q_146 : pm_D := (⟨"StandUpBookModel", "piece", "(IIIII)I"⟩, 12, prog_14_method_17_code, 6, (Option.some FieldType.int), [(0, .iload_n 1, 1), (1, .iconst 0, 1), (2, .iconst 5, 1), (3, .invokestatic 115, 3), (6, .ifCond .eq 49, 3), (9, .iload_n 2, 1), (10, .iconst 1, 1), (11, .bipush 9, 2), (13, .invokestatic 115, 3), (16, .ifCond .eq 39, 3), (19, .iload_n 3, 1), (20, .iconst 1, 1), (21, .bipush 9, 2), (23, .invokestatic 115, 3), (26, .ifCond .eq 29, 3), (29, .iload 4, 2), (31, .iconst 0, 1), (32, .bipush 9, 2), (34, .invokestatic 115, 3), (37, .ifCond .eq 18, 3), (40, .iload 5, 2), (42, .iconst (-1), 1), (43, .aload_n 0, 1), (44, .getfield 96, 3), (47, .iconst 1, 1), (48, .isub, 1), (49, .invokestatic 115, 3), (52, .ifCond .ne 8, 3), (55, .aload_n 0, 1), (56, .invokevirtual 119, 3), (59, .ireturn, 1), (60, .aload_n 0, 1), (61, .getfield 96, 3), (64, .bipush 7, 2), (66, .if_icmp .ne 10, 3), (69, .aload_n 0, 1), (70, .invokevirtual 123, 3), (73, .goto 14, 3), (76, .aload_n 0, 1), (77, .iload_n 1, 1), (78, .iload_n 2, 1), (79, .iload_n 3, 1), (80, .iload 4, 2), (82, .iload 5, 2), (84, .invokevirtual 126, 3), (87, .ireturn, 1)])
def q_147 : pm_D := (⟨"StandUpBookModel", "type", "(I)I"⟩, 12, prog_14_method_18_code, 2, (Option.some FieldType.int), [(0, .iload_n 1, 1), (1, .iconst 0, 1), (2, .bipush 127, 2), (4, .invokestatic 115, 3), (7, .ifCond .ne 8, 3), (10, .aload_n 0, 1), (11, .invokevirtual 119, 3), (14, .ireturn, 1), (15, .aload_n 0, 1), (16, .getfield 130, 3), (19, .sipush 150, 3), (22, .if_icmp .ne 8, 3), (25, .aload_n 0, 1), (26, .invokevirtual 123, 3), (29, .ireturn, 1), (30, .aload_n 0, 1), (31, .getfield 43, 3), (34, .aload_n 0, 1), (35, .getfield 130, 3), (38, .iload_n 1, 1), (39, .iastore, 1), (40, .aload_n 0, 1), (41, .dup, 1), (42, .getfield 130, 3), (45, .iconst 1, 1), (46, .iadd, 1), (47, .putfield 130, 3), (50, .aload_n 0, 1), (51, .getfield 130, 3), (54, .ireturn, 1)])
def q_148 : pm_D := (⟨"StandUpBookModel", "clear", "()I"⟩, 12, prog_14_method_19_code, 2, (Option.some FieldType.int), [(0, .aload_n 0, 1), (1, .getfield 130, 3), (4, .istore_n 1, 1), (5, .aload_n 0, 1), (6, .iconst 0, 1), (7, .putfield 130, 3), (10, .iload_n 1, 1), (11, .ireturn, 1)])
def q_149 : pm_D := (⟨"StandUpBookModel", "here", "()I"⟩, 12, prog_14_method_20_code, 1, (Option.some FieldType.int), [(0, .aload_n 0, 1), (1, .getfield 133, 3), (4, .aload_n 0, 1), (5, .getfield 130, 3), (8, .if_icmp .ge 15, 3), (11, .aload_n 0, 1), (12, .getfield 43, 3), (15, .aload_n 0, 1), (16, .getfield 133, 3), (19, .iaload, 1), (20, .goto 4, 3), (23, .iconst (-1), 1), (24, .ireturn, 1)])
def q_150 : pm_D := (⟨"StandUpBookModel", "skip", "()V"⟩, 12, prog_14_method_21_code, 1, (Option.none : Option FieldType), [(0, .aload_n 0, 1), (1, .invokevirtual 136, 3), (4, .bipush 32, 2), (6, .if_icmp .ne 16, 3), (9, .aload_n 0, 1), (10, .dup, 1), (11, .getfield 133, 3), (14, .iconst 1, 1), (15, .iadd, 1), (16, .putfield 133, 3), (19, .goto (-19), 3), (22, .return_, 1)])
def q_151 : pm_D := (⟨"StandUpBookModel", "isLetter", "(I)Z"⟩, 12, prog_14_method_22_code, 1, (Option.some FieldType.boolean), [(0, .iload_n 0, 1), (1, .bipush 97, 2), (3, .bipush 122, 2), (5, .invokestatic 115, 3), (8, .ireturn, 1)])
def q_152 : pm_D := (⟨"StandUpBookModel", "isFigure", "(I)Z"⟩, 12, prog_14_method_23_code, 1, (Option.some FieldType.boolean), [(0, .iload_n 0, 1), (1, .bipush 48, 2), (3, .bipush 57, 2), (5, .invokestatic 115, 3), (8, .ireturn, 1)])
def q_153 : pm_D := (⟨"StandUpBookModel", "wordSize", "()I"⟩, 12, prog_14_method_24_code, 2, (Option.some FieldType.int), [(0, .iconst 0, 1), (1, .istore_n 1, 1), (2, .aload_n 0, 1), (3, .getfield 133, 3), (6, .iload_n 1, 1), (7, .iadd, 1), (8, .aload_n 0, 1), (9, .getfield 130, 3), (12, .if_icmp .ge 26, 3), (15, .aload_n 0, 1), (16, .getfield 43, 3), (19, .aload_n 0, 1), (20, .getfield 133, 3), (23, .iload_n 1, 1), (24, .iadd, 1), (25, .iaload, 1), (26, .invokestatic 139, 3), (29, .ifCond .eq 9, 3), (32, .iinc 1 1, 3), (35, .goto (-33), 3), (38, .iload_n 1, 1), (39, .ireturn, 1)])
def q_154 : pm_D := (⟨"StandUpBookModel", "letter", "(I)I"⟩, 12, prog_14_method_25_code, 2, (Option.some FieldType.int), [(0, .aload_n 0, 1), (1, .getfield 43, 3), (4, .aload_n 0, 1), (5, .getfield 133, 3), (8, .iload_n 1, 1), (9, .iadd, 1), (10, .iaload, 1), (11, .ireturn, 1)])
def q_155 : pm_D := (⟨"StandUpBookModel", "wordHere", "()I"⟩, 12, prog_14_method_26_code, 2, (Option.some FieldType.int), [(0, .aload_n 0, 1), (1, .invokevirtual 143, 3), (4, .istore_n 1, 1), (5, .iload_n 1, 1), (6, .iconst 2, 1), (7, .if_icmp .ne 29, 3), (10, .aload_n 0, 1), (11, .iconst 0, 1), (12, .invokevirtual 146, 3), (15, .bipush 111, 2), (17, .if_icmp .ne 17, 3), (20, .aload_n 0, 1), (21, .iconst 1, 1), (22, .invokevirtual 146, 3), (25, .bipush 110, 2), (27, .if_icmp .ne 7, 3), (30, .iconst 2, 1), (31, .goto 4, 3), (34, .iconst (-1), 1), (35, .ireturn, 1), (36, .iload_n 1, 1), (37, .iconst 5, 1), (38, .if_icmp .ne 59, 3), (41, .aload_n 0, 1), (42, .iconst 0, 1), (43, .invokevirtual 146, 3), (46, .bipush 112, 2), (48, .if_icmp .ne 47, 3), (51, .aload_n 0, 1), (52, .iconst 1, 1), (53, .invokevirtual 146, 3), (56, .bipush 105, 2), (58, .if_icmp .ne 37, 3), (61, .aload_n 0, 1), (62, .iconst 2, 1), (63, .invokevirtual 146, 3), (66, .bipush 101, 2), (68, .if_icmp .ne 27, 3), (71, .aload_n 0, 1), (72, .iconst 3, 1), (73, .invokevirtual 146, 3), (76, .bipush 99, 2), (78, .if_icmp .ne 17, 3), (81, .aload_n 0, 1), (82, .iconst 4, 1), (83, .invokevirtual 146, 3), (86, .bipush 101, 2), (88, .if_icmp .ne 7, 3), (91, .iconst 1, 1), (92, .goto 4, 3), (95, .iconst (-1), 1), (96, .ireturn, 1), (97, .iload_n 1, 1), (98, .iconst 4, 1), (99, .if_icmp .eq 5, 3), (102, .iconst (-1), 1), (103, .ireturn, 1), (104, .aload_n 0, 1), (105, .iconst 0, 1), (106, .invokevirtual 146, 3), (109, .bipush 98, 2), (111, .if_icmp .ne 35, 3), (114, .aload_n 0, 1), (115, .iconst 1, 1), (116, .invokevirtual 146, 3), (119, .bipush 111, 2), (121, .if_icmp .ne 25, 3), (124, .aload_n 0, 1), (125, .iconst 2, 1), (126, .invokevirtual 146, 3), (129, .bipush 111, 2), (131, .if_icmp .ne 15, 3), (134, .aload_n 0, 1), (135, .iconst 3, 1), (136, .invokevirtual 146, 3), (139, .bipush 107, 2), (141, .if_icmp .ne 5, 3), (144, .iconst 0, 1), (145, .ireturn, 1), (146, .aload_n 0, 1), (147, .iconst 0, 1), (148, .invokevirtual 146, 3), (151, .bipush 111, 2), (153, .if_icmp .ne 35, 3), (156, .aload_n 0, 1), (157, .iconst 1, 1), (158, .invokevirtual 146, 3), (161, .bipush 112, 2), (163, .if_icmp .ne 25, 3), (166, .aload_n 0, 1), (167, .iconst 2, 1), (168, .invokevirtual 146, 3), (171, .bipush 101, 2), (173, .if_icmp .ne 15, 3), (176, .aload_n 0, 1), (177, .iconst 3, 1), (178, .invokevirtual 146, 3), (181, .bipush 110, 2), (183, .if_icmp .ne 5, 3), (186, .iconst 3, 1), (187, .ireturn, 1), (188, .aload_n 0, 1), (189, .iconst 0, 1), (190, .invokevirtual 146, 3), (193, .bipush 112, 2), (195, .if_icmp .ne 37, 3), (198, .aload_n 0, 1), (199, .iconst 1, 1), (200, .invokevirtual 146, 3), (203, .bipush 117, 2), (205, .if_icmp .ne 27, 3), (208, .aload_n 0, 1), (209, .iconst 2, 1), (210, .invokevirtual 146, 3), (213, .bipush 108, 2), (215, .if_icmp .ne 17, 3), (218, .aload_n 0, 1), (219, .iconst 3, 1), (220, .invokevirtual 146, 3), (223, .bipush 108, 2), (225, .if_icmp .ne 7, 3), (228, .iconst 4, 1), (229, .goto 4, 3), (232, .iconst (-1), 1), (233, .ireturn, 1)])
def q_156 : pm_D := (⟨"StandUpBookModel", "number", "(II)Z"⟩, 12, prog_14_method_27_code, 5, (Option.some FieldType.boolean), [(0, .aload_n 0, 1), (1, .invokevirtual 150, 3), (4, .iconst 0, 1), (5, .istore_n 3, 1), (6, .iconst 0, 1), (7, .istore 4, 2), (9, .aload_n 0, 1), (10, .getfield 133, 3), (13, .iload_n 3, 1), (14, .iadd, 1), (15, .aload_n 0, 1), (16, .getfield 130, 3), (19, .if_icmp .ge 58, 3), (22, .aload_n 0, 1), (23, .getfield 43, 3), (26, .aload_n 0, 1), (27, .getfield 133, 3), (30, .iload_n 3, 1), (31, .iadd, 1), (32, .iaload, 1), (33, .invokestatic 153, 3), (36, .ifCond .eq 41, 3), (39, .iload_n 3, 1), (40, .iconst 2, 1), (41, .if_icmp .ge 26, 3), (44, .bipush 10, 2), (46, .iload 4, 2), (48, .imul, 1), (49, .aload_n 0, 1), (50, .getfield 43, 3), (53, .aload_n 0, 1), (54, .getfield 133, 3), (57, .iload_n 3, 1), (58, .iadd, 1), (59, .iaload, 1), (60, .iadd, 1), (61, .bipush 48, 2), (63, .isub, 1), (64, .goto 5, 3), (67, .iload 4, 2), (69, .istore 4, 2), (71, .iinc 3 1, 3), (74, .goto (-65), 3), (77, .iload_n 3, 1), (78, .iconst 1, 1), (79, .iconst 2, 1), (80, .invokestatic 115, 3), (83, .ifCond .eq 13, 3), (86, .iload 4, 2), (88, .iload_n 1, 1), (89, .iload_n 2, 1), (90, .invokestatic 115, 3), (93, .ifCond .ne 5, 3), (96, .iconst 0, 1), (97, .ireturn, 1), (98, .aload_n 0, 1), (99, .iload 4, 2), (101, .putfield 156, 3), (104, .aload_n 0, 1), (105, .dup, 1), (106, .getfield 133, 3), (109, .iload_n 3, 1), (110, .iadd, 1), (111, .putfield 133, 3), (114, .iconst 1, 1), (115, .ireturn, 1)])
def q_157 : pm_D := (⟨"StandUpBookModel", "ends", "()Z"⟩, 12, prog_14_method_28_code, 1, (Option.some FieldType.boolean), [(0, .aload_n 0, 1), (1, .invokevirtual 150, 3), (4, .aload_n 0, 1), (5, .invokevirtual 136, 3), (8, .bipush 59, 2), (10, .if_icmp .eq 5, 3), (13, .iconst 0, 1), (14, .ireturn, 1), (15, .aload_n 0, 1), (16, .dup, 1), (17, .getfield 133, 3), (20, .iconst 1, 1), (21, .iadd, 1), (22, .putfield 133, 3), (25, .iconst 1, 1), (26, .ireturn, 1)])
def q_158 : pm_D := (⟨"StandUpBookModel", "readsPiece", "(Z)Z"⟩, 12, prog_14_method_29_code, 5, (Option.some FieldType.boolean), [(0, .iconst 0, 1), (1, .istore_n 2, 1), (2, .iload_n 2, 1), (3, .iload_n 1, 1), (4, .ifCond .eq 7, 3), (7, .iconst 5, 1), (8, .goto 4, 3), (11, .iconst 4, 1), (12, .if_icmp .ge 73, 3), (15, .iload_n 2, 1), (16, .iconst 1, 1), (17, .if_icmp .eq 8, 3), (20, .iload_n 2, 1), (21, .iconst 2, 1), (22, .if_icmp .ne 7, 3), (25, .iconst 1, 1), (26, .goto 4, 3), (29, .iconst 0, 1), (30, .istore_n 3, 1), (31, .iload_n 2, 1), (32, .ifCond .ne 7, 3), (35, .iconst 5, 1), (36, .goto 19, 3), (39, .iload_n 2, 1), (40, .iconst 4, 1), (41, .if_icmp .ne 12, 3), (44, .aload_n 0, 1), (45, .getfield 96, 3), (48, .iconst 1, 1), (49, .isub, 1), (50, .goto 5, 3), (53, .bipush 9, 2), (55, .istore 4, 2), (57, .aload_n 0, 1), (58, .iload_n 3, 1), (59, .iload 4, 2), (61, .invokevirtual 159, 3), (64, .ifCond .ne 5, 3), (67, .iconst 0, 1), (68, .ireturn, 1), (69, .aload_n 0, 1), (70, .getfield 46, 3), (73, .iload_n 2, 1), (74, .aload_n 0, 1), (75, .getfield 156, 3), (78, .iastore, 1), (79, .iinc 2 1, 3), (82, .goto (-80), 3), (85, .aload_n 0, 1), (86, .invokevirtual 163, 3), (89, .ifCond .ne 5, 3), (92, .iconst 0, 1), (93, .ireturn, 1), (94, .aload_n 0, 1), (95, .aload_n 0, 1), (96, .getfield 46, 3), (99, .iconst 0, 1), (100, .iaload, 1), (101, .aload_n 0, 1), (102, .getfield 46, 3), (105, .iconst 1, 1), (106, .iaload, 1), (107, .aload_n 0, 1), (108, .getfield 46, 3), (111, .iconst 2, 1), (112, .iaload, 1), (113, .aload_n 0, 1), (114, .getfield 46, 3), (117, .iconst 3, 1), (118, .iaload, 1), (119, .iload_n 1, 1), (120, .ifCond .eq 12, 3), (123, .aload_n 0, 1), (124, .getfield 46, 3), (127, .iconst 4, 1), (128, .iaload, 1), (129, .goto 4, 3), (132, .iconst (-1), 1), (133, .invokevirtual 126, 3), (136, .pop, 1), (137, .iconst 1, 1), (138, .ireturn, 1)])
def q_159 : pm_D := (⟨"StandUpBookModel", "readsOpen", "()Z"⟩, 12, prog_14_method_30_code, 1, (Option.some FieldType.boolean), [(0, .aload_n 0, 1), (1, .iconst 0, 1), (2, .bipush 12, 2), (4, .invokevirtual 159, 3), (7, .ifCond .ne 5, 3), (10, .iconst 0, 1), (11, .ireturn, 1), (12, .aload_n 0, 1), (13, .aload_n 0, 1), (14, .getfield 156, 3), (17, .invokevirtual 167, 3), (20, .aload_n 0, 1), (21, .invokevirtual 163, 3), (24, .ireturn, 1)])
def q_160 : pm_D := (⟨"StandUpBookModel", "readsPull", "()Z"⟩, 12, prog_14_method_31_code, 2, (Option.some FieldType.boolean), [(0, .aload_n 0, 1), (1, .iconst 0, 1), (2, .aload_n 0, 1), (3, .getfield 96, 3), (6, .iconst 1, 1), (7, .isub, 1), (8, .invokevirtual 159, 3), (11, .ifCond .ne 5, 3), (14, .iconst 0, 1), (15, .ireturn, 1), (16, .aload_n 0, 1), (17, .getfield 156, 3), (20, .istore_n 1, 1), (21, .aload_n 0, 1), (22, .iconst 0, 1), (23, .iconst 3, 1), (24, .invokevirtual 159, 3), (27, .ifCond .ne 5, 3), (30, .iconst 0, 1), (31, .ireturn, 1), (32, .aload_n 0, 1), (33, .getfield 28, 3), (36, .iload_n 1, 1), (37, .aload_n 0, 1), (38, .getfield 156, 3), (41, .iastore, 1), (42, .aload_n 0, 1), (43, .invokevirtual 163, 3), (46, .ireturn, 1)])
def q_161 : pm_D := (⟨"StandUpBookModel", "readsItem", "()Z"⟩, 12, prog_14_method_32_code, 2, (Option.some FieldType.boolean), [(0, .aload_n 0, 1), (1, .invokevirtual 170, 3), (4, .istore_n 1, 1), (5, .iload_n 1, 1), (6, .iconst 1, 1), (7, .if_icmp .lt 17, 3), (10, .iload_n 1, 1), (11, .iconst 3, 1), (12, .if_icmp .ge 14, 3), (15, .aload_n 0, 1), (16, .getfield 96, 3), (19, .bipush 7, 2), (21, .if_icmp .ne 5, 3), (24, .iconst 0, 1), (25, .ireturn, 1), (26, .aload_n 0, 1), (27, .dup, 1), (28, .getfield 133, 3), (31, .iload_n 1, 1), (32, .iconst 1, 1), (33, .if_icmp .ne 7, 3), (36, .iconst 5, 1), (37, .goto 13, 3), (40, .iload_n 1, 1), (41, .iconst 2, 1), (42, .if_icmp .ne 7, 3), (45, .iconst 2, 1), (46, .goto 4, 3), (49, .iconst 4, 1), (50, .iadd, 1), (51, .putfield 133, 3), (54, .iload_n 1, 1), (55, .iconst 3, 1), (56, .if_icmp .ne 10, 3), (59, .aload_n 0, 1), (60, .invokevirtual 173, 3), (63, .goto 29, 3), (66, .iload_n 1, 1), (67, .iconst 4, 1), (68, .if_icmp .ne 10, 3), (71, .aload_n 0, 1), (72, .invokevirtual 176, 3), (75, .goto 17, 3), (78, .aload_n 0, 1), (79, .iload_n 1, 1), (80, .iconst 2, 1), (81, .if_icmp .ne 7, 3), (84, .iconst 1, 1), (85, .goto 4, 3), (88, .iconst 0, 1), (89, .invokevirtual 179, 3), (92, .ireturn, 1)])
def q_162 : pm_D := (⟨"StandUpBookModel", "readsFirst", "()Z"⟩, 12, prog_14_method_33_code, 1, (Option.some FieldType.boolean), [(0, .aload_n 0, 1), (1, .invokevirtual 150, 3), (4, .aload_n 0, 1), (5, .invokevirtual 170, 3), (8, .ifCond .eq 5, 3), (11, .iconst 0, 1), (12, .ireturn, 1), (13, .aload_n 0, 1), (14, .dup, 1), (15, .getfield 133, 3), (18, .iconst 4, 1), (19, .iadd, 1), (20, .putfield 133, 3), (23, .aload_n 0, 1), (24, .bipush 6, 2), (26, .bipush 40, 2), (28, .invokevirtual 159, 3), (31, .ifCond .ne 5, 3), (34, .iconst 0, 1), (35, .ireturn, 1), (36, .aload_n 0, 1), (37, .aload_n 0, 1), (38, .getfield 156, 3), (41, .invokevirtual 92, 3), (44, .aload_n 0, 1), (45, .invokevirtual 163, 3), (48, .ireturn, 1)])
def q_163 : pm_D := (⟨"StandUpBookModel", "readsBook", "()I"⟩, 12, prog_14_method_34_code, 2, (Option.some FieldType.int), [(0, .aload_n 0, 1), (1, .iconst 0, 1), (2, .putfield 133, 3), (5, .aload_n 0, 1), (6, .invokevirtual 183, 3), (9, .ifCond .ne 5, 3), (12, .iconst (-1), 1), (13, .ireturn, 1), (14, .iconst 1, 1), (15, .istore_n 1, 1), (16, .aload_n 0, 1), (17, .invokevirtual 150, 3), (20, .aload_n 0, 1), (21, .getfield 133, 3), (24, .aload_n 0, 1), (25, .getfield 130, 3), (28, .if_icmp .ge 22, 3), (31, .aload_n 0, 1), (32, .invokevirtual 186, 3), (35, .ifCond .ne 5, 3), (38, .iconst (-1), 1), (39, .ireturn, 1), (40, .iinc 1 1, 3), (43, .aload_n 0, 1), (44, .invokevirtual 150, 3), (47, .goto (-27), 3), (50, .iload_n 1, 1), (51, .ireturn, 1)])
def q_164 : pm_D := (⟨"StandUpBookModel", "read", "()I"⟩, 12, prog_14_method_35_code, 2, (Option.some FieldType.int), [(0, .aload_n 0, 1), (1, .aload_n 0, 1), (2, .getfield 49, 3), (5, .iconst 0, 1), (6, .invokevirtual 189, 3), (9, .aload_n 0, 1), (10, .invokevirtual 193, 3), (13, .istore_n 1, 1), (14, .iload_n 1, 1), (15, .ifCond .ge 20, 3), (18, .aload_n 0, 1), (19, .aload_n 0, 1), (20, .getfield 49, 3), (23, .iconst 0, 1), (24, .invokevirtual 196, 3), (27, .bipush (-10), 2), (29, .aload_n 0, 1), (30, .getfield 133, 3), (33, .isub, 1), (34, .ireturn, 1), (35, .aload_n 0, 1), (36, .iconst 0, 1), (37, .putfield 112, 3), (40, .iload_n 1, 1), (41, .ireturn, 1)])
def q_165 : pm_D := (⟨"StandUpBookModel", "risesBy", "(IIII)I"⟩, 12, prog_14_method_36_code, 7, (Option.some FieldType.int), [(0, .iload_n 2, 1), (1, .iload_n 1, 1), (2, .imul, 1), (3, .bipush 12, 2), (5, .idiv, 1), (6, .istore 4, 2), (8, .iload_n 2, 1), (9, .iconst 2, 1), (10, .imul, 1), (11, .iload_n 1, 1), (12, .bipush 6, 2), (14, .if_icmp .gt 7, 3), (17, .iload_n 1, 1), (18, .goto 7, 3), (21, .bipush 12, 2), (23, .iload_n 1, 1), (24, .isub, 1), (25, .imul, 1), (26, .bipush 12, 2), (28, .idiv, 1), (29, .istore 5, 2), (31, .iload_n 1, 1), (32, .iconst 4, 1), (33, .if_icmp .ge 7, 3), (36, .iconst 0, 1), (37, .goto 5, 3), (40, .iload 4, 2), (42, .istore 6, 2), (44, .iload_n 0, 1), (45, .tableswitch 78 1 5 #[35, 51, 54, 57, 64], 35), (80, .iload_n 1, 1), (81, .bipush 6, 2), (83, .if_icmp .lt 10, 3), (86, .iload 4, 2), (88, .iconst 1, 1), (89, .iadd, 1), (90, .goto 5, 3), (93, .iload 4, 2), (95, .ireturn, 1), (96, .iload 5, 2), (98, .ireturn, 1), (99, .iload 6, 2), (101, .ireturn, 1), (102, .iload 5, 2), (104, .iconst 1, 1), (105, .iadd, 1), (106, .iconst 2, 1), (107, .idiv, 1), (108, .ireturn, 1), (109, .iload 6, 2), (111, .ifCond .le 10, 3), (114, .iload 6, 2), (116, .iload_n 3, 1), (117, .iadd, 1), (118, .goto 4, 3), (121, .iconst 0, 1), (122, .ireturn, 1), (123, .iload 4, 2), (125, .ireturn, 1)])
def q_166 : pm_D := (⟨"StandUpBookModel", "reach", "(I)I"⟩, 12, prog_14_method_37_code, 2, (Option.some FieldType.int), [(0, .aload_n 0, 1), (1, .getfield 13, 3), (4, .iload_n 1, 1), (5, .iaload, 1), (6, .tableswitch 78 2 5 #[30, 62, 46, 69], 30), (36, .aload_n 0, 1), (37, .getfield 19, 3), (40, .iload_n 1, 1), (41, .iaload, 1), (42, .iconst 3, 1), (43, .aload_n 0, 1), (44, .getfield 16, 3), (47, .iload_n 1, 1), (48, .iaload, 1), (49, .imul, 1), (50, .iadd, 1), (51, .ireturn, 1), (52, .aload_n 0, 1), (53, .getfield 19, 3), (56, .iload_n 1, 1), (57, .iaload, 1), (58, .iconst 3, 1), (59, .aload_n 0, 1), (60, .getfield 16, 3), (63, .iload_n 1, 1), (64, .iaload, 1), (65, .imul, 1), (66, .iadd, 1), (67, .ireturn, 1), (68, .aload_n 0, 1), (69, .getfield 19, 3), (72, .iload_n 1, 1), (73, .iaload, 1), (74, .ireturn, 1), (75, .aload_n 0, 1), (76, .getfield 19, 3), (79, .iload_n 1, 1), (80, .iaload, 1), (81, .iconst 3, 1), (82, .iadd, 1), (83, .ireturn, 1), (84, .aload_n 0, 1), (85, .getfield 19, 3), (88, .iload_n 1, 1), (89, .iaload, 1), (90, .aload_n 0, 1), (91, .getfield 16, 3), (94, .iload_n 1, 1), (95, .iaload, 1), (96, .iadd, 1), (97, .ireturn, 1)])
def q_167 : pm_D := (⟨"StandUpBookModel", "bearsBy", "(I)I"⟩, 12, prog_14_method_38_code, 1, (Option.some FieldType.int), [(0, .iload_n 0, 1), (1, .tableswitch 42 2 5 #[31, 42, 35, 39], 31), (32, .sipush 200, 3), (35, .ireturn, 1), (36, .sipush 400, 3), (39, .ireturn, 1), (40, .bipush 75, 2), (42, .ireturn, 1), (43, .sipush 150, 3), (46, .ireturn, 1)])
def q_168 : pm_D := (⟨"StandUpBookModel", "isStuck", "(I)Z"⟩, 12, prog_14_method_39_code, 2, (Option.some FieldType.boolean), [(0, .aload_n 0, 1), (1, .getfield 31, 3), (4, .iload_n 1, 1), (5, .iaload, 1), (6, .aload_n 0, 1), (7, .getfield 13, 3), (10, .iload_n 1, 1), (11, .iaload, 1), (12, .invokestatic 199, 3), (15, .if_icmp .lt 7, 3), (18, .iconst 1, 1), (19, .goto 4, 3), (22, .iconst 0, 1), (23, .ireturn, 1)])
def q_169 : pm_D := (⟨"StandUpBookModel", "riseOf", "(II)I"⟩, 12, prog_14_method_40_code, 3, (Option.some FieldType.int), [(0, .aload_n 0, 1), (1, .iload_n 1, 1), (2, .invokevirtual 202, 3), (5, .ifCond .ne 14, 3), (8, .aload_n 0, 1), (9, .getfield 205, 3), (12, .iload_n 1, 1), (13, .invokestatic 208, 3), (16, .ifCond .eq 7, 3), (19, .iconst 0, 1), (20, .goto 25, 3), (23, .aload_n 0, 1), (24, .getfield 13, 3), (27, .iload_n 1, 1), (28, .iaload, 1), (29, .iload_n 2, 1), (30, .aload_n 0, 1), (31, .getfield 19, 3), (34, .iload_n 1, 1), (35, .iaload, 1), (36, .aload_n 0, 1), (37, .getfield 28, 3), (40, .iload_n 1, 1), (41, .iaload, 1), (42, .invokestatic 211, 3), (45, .ireturn, 1)])
def q_170 : pm_D := (⟨"StandUpBookModel", "heightOf", "(II)I"⟩, 12, prog_14_method_41_code, 5, (Option.some FieldType.int), [(0, .iconst 0, 1), (1, .istore_n 3, 1), (2, .iload_n 1, 1), (3, .istore 4, 2), (5, .iload 4, 2), (7, .iconst (-1), 1), (8, .if_icmp .eq 25, 3), (11, .iload_n 3, 1), (12, .aload_n 0, 1), (13, .iload 4, 2), (15, .iload_n 2, 1), (16, .invokevirtual 215, 3), (19, .iadd, 1), (20, .istore_n 3, 1), (21, .aload_n 0, 1), (22, .getfield 25, 3), (25, .iload 4, 2), (27, .iaload, 1), (28, .istore 4, 2), (30, .goto (-25), 3), (33, .iload_n 3, 1), (34, .ireturn, 1)])
def q_171 : pm_D := (⟨"StandUpBookModel", "seenAt", "(I)I"⟩, 12, prog_14_method_42_code, 6, (Option.some FieldType.int), [(0, .iconst 0, 1), (1, .istore_n 2, 1), (2, .iload_n 2, 1), (3, .aload_n 0, 1), (4, .getfield 96, 3), (7, .if_icmp .ge 21, 3), (10, .aload_n 0, 1), (11, .getfield 52, 3), (14, .iload_n 2, 1), (15, .aload_n 0, 1), (16, .iload_n 2, 1), (17, .iload_n 1, 1), (18, .invokevirtual 219, 3), (21, .iastore, 1), (22, .iinc 2 1, 3), (25, .goto (-23), 3), (28, .iconst 0, 1), (29, .istore_n 2, 1), (30, .iconst 0, 1), (31, .istore_n 3, 1), (32, .iload_n 3, 1), (33, .aload_n 0, 1), (34, .getfield 96, 3), (37, .if_icmp .ge 102, 3), (40, .aload_n 0, 1), (41, .getfield 52, 3), (44, .iload_n 3, 1), (45, .iaload, 1), (46, .ifCond .le 7, 3), (49, .iconst 1, 1), (50, .goto 4, 3), (53, .iconst 0, 1), (54, .istore 4, 2), (56, .iconst 0, 1), (57, .istore 5, 2), (59, .iload 5, 2), (61, .aload_n 0, 1), (62, .getfield 96, 3), (65, .if_icmp .ge 53, 3), (68, .iload 4, 2), (70, .ifCond .eq 39, 3), (73, .aload_n 0, 1), (74, .getfield 22, 3), (77, .iload 5, 2), (79, .iaload, 1), (80, .aload_n 0, 1), (81, .getfield 22, 3), (84, .iload_n 3, 1), (85, .iaload, 1), (86, .if_icmp .ge 19, 3), (89, .aload_n 0, 1), (90, .getfield 52, 3), (93, .iload 5, 2), (95, .iaload, 1), (96, .aload_n 0, 1), (97, .getfield 52, 3), (100, .iload_n 3, 1), (101, .iaload, 1), (102, .if_icmp .ge 7, 3), (105, .iconst 1, 1), (106, .goto 4, 3), (109, .iconst 0, 1), (110, .istore 4, 2), (112, .iinc 5 1, 3), (115, .goto (-56), 3), (118, .iload_n 2, 1), (119, .iload 4, 2), (121, .ifCond .eq 9, 3), (124, .iconst 1, 1), (125, .iload_n 3, 1), (126, .ishl, 1), (127, .goto 4, 3), (130, .iconst 0, 1), (131, .ior, 1), (132, .istore_n 2, 1), (133, .iinc 3 1, 3), (136, .goto (-104), 3), (139, .iload_n 2, 1), (140, .ireturn, 1)])
def q_172 : pm_D := (⟨"StandUpBookModel", "lays", "([II)V"⟩, 12, prog_14_method_43_code, 4, (Option.none : Option FieldType), [(0, .aload_n 1, 1), (1, .iload_n 2, 1), (2, .aload_n 0, 1), (3, .getfield 96, 3), (6, .iastore, 1), (7, .aload_n 1, 1), (8, .iload_n 2, 1), (9, .iconst 1, 1), (10, .iadd, 1), (11, .aload_n 0, 1), (12, .getfield 100, 3), (15, .iastore, 1), (16, .aload_n 1, 1), (17, .iload_n 2, 1), (18, .iconst 2, 1), (19, .iadd, 1), (20, .aload_n 0, 1), (21, .getfield 103, 3), (24, .iastore, 1), (25, .iconst 0, 1), (26, .istore_n 3, 1), (27, .iload_n 3, 1), (28, .bipush 7, 2), (30, .if_icmp .ge 106, 3), (33, .aload_n 1, 1), (34, .iload_n 2, 1), (35, .iconst 3, 1), (36, .iadd, 1), (37, .iload_n 3, 1), (38, .iadd, 1), (39, .aload_n 0, 1), (40, .getfield 13, 3), (43, .iload_n 3, 1), (44, .iaload, 1), (45, .iastore, 1), (46, .aload_n 1, 1), (47, .iload_n 2, 1), (48, .bipush 10, 2), (50, .iadd, 1), (51, .iload_n 3, 1), (52, .iadd, 1), (53, .aload_n 0, 1), (54, .getfield 16, 3), (57, .iload_n 3, 1), (58, .iaload, 1), (59, .iastore, 1), (60, .aload_n 1, 1), (61, .iload_n 2, 1), (62, .bipush 17, 2), (64, .iadd, 1), (65, .iload_n 3, 1), (66, .iadd, 1), (67, .aload_n 0, 1), (68, .getfield 19, 3), (71, .iload_n 3, 1), (72, .iaload, 1), (73, .iastore, 1), (74, .aload_n 1, 1), (75, .iload_n 2, 1), (76, .bipush 24, 2), (78, .iadd, 1), (79, .iload_n 3, 1), (80, .iadd, 1), (81, .aload_n 0, 1), (82, .getfield 22, 3), (85, .iload_n 3, 1), (86, .iaload, 1), (87, .iastore, 1), (88, .aload_n 1, 1), (89, .iload_n 2, 1), (90, .bipush 31, 2), (92, .iadd, 1), (93, .iload_n 3, 1), (94, .iadd, 1), (95, .aload_n 0, 1), (96, .getfield 25, 3), (99, .iload_n 3, 1), (100, .iaload, 1), (101, .iastore, 1), (102, .aload_n 1, 1), (103, .iload_n 2, 1), (104, .bipush 38, 2), (106, .iadd, 1), (107, .iload_n 3, 1), (108, .iadd, 1), (109, .aload_n 0, 1), (110, .getfield 28, 3), (113, .iload_n 3, 1), (114, .iaload, 1), (115, .iastore, 1), (116, .aload_n 1, 1), (117, .iload_n 2, 1), (118, .bipush 45, 2), (120, .iadd, 1), (121, .iload_n 3, 1), (122, .iadd, 1), (123, .aload_n 0, 1), (124, .getfield 31, 3), (127, .iload_n 3, 1), (128, .iaload, 1), (129, .iastore, 1), (130, .iinc 3 1, 3), (133, .goto (-106), 3), (136, .return_, 1)])
def q_173 : pm_D := (⟨"StandUpBookModel", "takes", "([II)V"⟩, 12, prog_14_method_44_code, 4, (Option.none : Option FieldType), [(0, .aload_n 0, 1), (1, .aload_n 1, 1), (2, .iload_n 2, 1), (3, .iaload, 1), (4, .putfield 96, 3), (7, .aload_n 0, 1), (8, .aload_n 1, 1), (9, .iload_n 2, 1), (10, .iconst 1, 1), (11, .iadd, 1), (12, .iaload, 1), (13, .putfield 100, 3), (16, .aload_n 0, 1), (17, .aload_n 1, 1), (18, .iload_n 2, 1), (19, .iconst 2, 1), (20, .iadd, 1), (21, .iaload, 1), (22, .putfield 103, 3), (25, .iconst 0, 1), (26, .istore_n 3, 1), (27, .iload_n 3, 1), (28, .bipush 7, 2), (30, .if_icmp .ge 106, 3), (33, .aload_n 0, 1), (34, .getfield 13, 3), (37, .iload_n 3, 1), (38, .aload_n 1, 1), (39, .iload_n 2, 1), (40, .iconst 3, 1), (41, .iadd, 1), (42, .iload_n 3, 1), (43, .iadd, 1), (44, .iaload, 1), (45, .iastore, 1), (46, .aload_n 0, 1), (47, .getfield 16, 3), (50, .iload_n 3, 1), (51, .aload_n 1, 1), (52, .iload_n 2, 1), (53, .bipush 10, 2), (55, .iadd, 1), (56, .iload_n 3, 1), (57, .iadd, 1), (58, .iaload, 1), (59, .iastore, 1), (60, .aload_n 0, 1), (61, .getfield 19, 3), (64, .iload_n 3, 1), (65, .aload_n 1, 1), (66, .iload_n 2, 1), (67, .bipush 17, 2), (69, .iadd, 1), (70, .iload_n 3, 1), (71, .iadd, 1), (72, .iaload, 1), (73, .iastore, 1), (74, .aload_n 0, 1), (75, .getfield 22, 3), (78, .iload_n 3, 1), (79, .aload_n 1, 1), (80, .iload_n 2, 1), (81, .bipush 24, 2), (83, .iadd, 1), (84, .iload_n 3, 1), (85, .iadd, 1), (86, .iaload, 1), (87, .iastore, 1), (88, .aload_n 0, 1), (89, .getfield 25, 3), (92, .iload_n 3, 1), (93, .aload_n 1, 1), (94, .iload_n 2, 1), (95, .bipush 31, 2), (97, .iadd, 1), (98, .iload_n 3, 1), (99, .iadd, 1), (100, .iaload, 1), (101, .iastore, 1), (102, .aload_n 0, 1), (103, .getfield 28, 3), (106, .iload_n 3, 1), (107, .aload_n 1, 1), (108, .iload_n 2, 1), (109, .bipush 38, 2), (111, .iadd, 1), (112, .iload_n 3, 1), (113, .iadd, 1), (114, .iaload, 1), (115, .iastore, 1), (116, .aload_n 0, 1), (117, .getfield 31, 3), (120, .iload_n 3, 1), (121, .aload_n 1, 1), (122, .iload_n 2, 1), (123, .bipush 45, 2), (125, .iadd, 1), (126, .iload_n 3, 1), (127, .iadd, 1), (128, .iaload, 1), (129, .iastore, 1), (130, .iinc 3 1, 3), (133, .goto (-106), 3), (136, .return_, 1)])
def q_174 : pm_D := (⟨"StandUpBookModel", "notes", "()V"⟩, 12, prog_14_method_45_code, 2, (Option.none : Option FieldType), [(0, .aload_n 0, 1), (1, .getfield 112, 3), (4, .bipush 6, 2), (6, .if_icmp .ne 43, 3), (9, .iconst 0, 1), (10, .istore_n 1, 1), (11, .iload_n 1, 1), (12, .sipush 260, 3), (15, .if_icmp .ge 24, 3), (18, .aload_n 0, 1), (19, .getfield 55, 3), (22, .iload_n 1, 1), (23, .aload_n 0, 1), (24, .getfield 55, 3), (27, .iload_n 1, 1), (28, .bipush 52, 2), (30, .iadd, 1), (31, .iaload, 1), (32, .iastore, 1), (33, .iinc 1 1, 3), (36, .goto (-25), 3), (39, .aload_n 0, 1), (40, .dup, 1), (41, .getfield 112, 3), (44, .iconst 1, 1), (45, .isub, 1), (46, .putfield 112, 3), (49, .aload_n 0, 1), (50, .aload_n 0, 1), (51, .getfield 55, 3), (54, .bipush 52, 2), (56, .aload_n 0, 1), (57, .getfield 112, 3), (60, .imul, 1), (61, .invokevirtual 222, 3), (64, .aload_n 0, 1), (65, .dup, 1), (66, .getfield 112, 3), (69, .iconst 1, 1), (70, .iadd, 1), (71, .putfield 112, 3), (74, .return_, 1)])
def q_175 : pm_D := (⟨"StandUpBookModel", "goesTo", "(I)V"⟩, 12, prog_14_method_46_code, 4, (Option.none : Option FieldType), [(0, .iload_n 1, 1), (1, .aload_n 0, 1), (2, .getfield 100, 3), (5, .if_icmp .le 12, 3), (8, .iload_n 1, 1), (9, .aload_n 0, 1), (10, .getfield 100, 3), (13, .isub, 1), (14, .goto 9, 3), (17, .aload_n 0, 1), (18, .getfield 100, 3), (21, .iload_n 1, 1), (22, .isub, 1), (23, .istore_n 2, 1), (24, .iconst 0, 1), (25, .istore_n 3, 1), (26, .iload_n 3, 1), (27, .aload_n 0, 1), (28, .getfield 96, 3), (31, .if_icmp .ge 46, 3), (34, .aload_n 0, 1), (35, .getfield 31, 3), (38, .iload_n 3, 1), (39, .aload_n 0, 1), (40, .iload_n 3, 1), (41, .invokevirtual 202, 3), (44, .ifCond .eq 12, 3), (47, .aload_n 0, 1), (48, .getfield 31, 3), (51, .iload_n 3, 1), (52, .iaload, 1), (53, .goto 17, 3), (56, .sipush 999, 3), (59, .aload_n 0, 1), (60, .getfield 31, 3), (63, .iload_n 3, 1), (64, .iaload, 1), (65, .iload_n 2, 1), (66, .iadd, 1), (67, .invokestatic 225, 3), (70, .iastore, 1), (71, .iinc 3 1, 3), (74, .goto (-48), 3), (77, .aload_n 0, 1), (78, .iload_n 1, 1), (79, .putfield 100, 3), (82, .return_, 1)])
def q_176 : pm_D := (⟨"StandUpBookModel", "opens", "(I)I"⟩, 12, prog_14_method_47_code, 2, (Option.some FieldType.int), [(0, .iload_n 1, 1), (1, .invokestatic 228, 3), (4, .ifCond .ne 8, 3), (7, .aload_n 0, 1), (8, .invokevirtual 119, 3), (11, .ireturn, 1), (12, .iload_n 1, 1), (13, .aload_n 0, 1), (14, .getfield 100, 3), (17, .if_icmp .ne 8, 3), (20, .aload_n 0, 1), (21, .invokevirtual 231, 3), (24, .ireturn, 1), (25, .aload_n 0, 1), (26, .invokevirtual 234, 3), (29, .aload_n 0, 1), (30, .iload_n 1, 1), (31, .invokevirtual 167, 3), (34, .aload_n 0, 1), (35, .aload_n 0, 1), (36, .getfield 100, 3), (39, .invokevirtual 237, 3), (42, .ireturn, 1)])
def q_177 : pm_D := (⟨"StandUpBookModel", "pulls", "(II)I"⟩, 12, prog_14_method_48_code, 4, (Option.some FieldType.int), [(0, .aload_n 0, 1), (1, .iload_n 1, 1), (2, .invokevirtual 240, 3), (5, .ifCond .eq 12, 3), (8, .iload_n 2, 1), (9, .iconst 0, 1), (10, .iconst 3, 1), (11, .invokestatic 115, 3), (14, .ifCond .ne 8, 3), (17, .aload_n 0, 1), (18, .invokevirtual 119, 3), (21, .ireturn, 1), (22, .aload_n 0, 1), (23, .getfield 28, 3), (26, .iload_n 1, 1), (27, .iaload, 1), (28, .iload_n 2, 1), (29, .if_icmp .ne 8, 3), (32, .aload_n 0, 1), (33, .invokevirtual 231, 3), (36, .ireturn, 1), (37, .aload_n 0, 1), (38, .invokevirtual 234, 3), (41, .aload_n 0, 1), (42, .getfield 28, 3), (45, .iload_n 1, 1), (46, .iaload, 1), (47, .istore_n 3, 1), (48, .aload_n 0, 1), (49, .getfield 28, 3), (52, .iload_n 1, 1), (53, .iload_n 2, 1), (54, .iastore, 1), (55, .iload_n 3, 1), (56, .ireturn, 1)])
def q_178 : pm_D := (⟨"StandUpBookModel", "tears", "(I)I"⟩, 12, prog_14_method_49_code, 5, (Option.some FieldType.int), [(0, .aload_n 0, 1), (1, .iload_n 1, 1), (2, .invokevirtual 240, 3), (5, .ifCond .ne 8, 3), (8, .aload_n 0, 1), (9, .invokevirtual 119, 3), (12, .ireturn, 1), (13, .aload_n 0, 1), (14, .invokevirtual 234, 3), (17, .iconst 0, 1), (18, .istore_n 2, 1), (19, .iconst 0, 1), (20, .istore_n 3, 1), (21, .iload_n 3, 1), (22, .aload_n 0, 1), (23, .getfield 96, 3), (26, .if_icmp .ge 173, 3), (29, .iload_n 3, 1), (30, .iload_n 1, 1), (31, .if_icmp .eq 28, 3), (34, .aload_n 0, 1), (35, .getfield 25, 3), (38, .iload_n 3, 1), (39, .iaload, 1), (40, .iconst (-1), 1), (41, .if_icmp .eq 22, 3), (44, .aload_n 0, 1), (45, .getfield 61, 3), (48, .aload_n 0, 1), (49, .getfield 25, 3), (52, .iload_n 3, 1), (53, .iaload, 1), (54, .iaload, 1), (55, .iconst (-1), 1), (56, .if_icmp .ne 7, 3), (59, .iconst 1, 1), (60, .goto 4, 3), (63, .iconst 0, 1), (64, .istore 4, 2), (66, .aload_n 0, 1), (67, .getfield 61, 3), (70, .iload_n 3, 1), (71, .iload 4, 2), (73, .ifCond .eq 7, 3), (76, .iconst (-1), 1), (77, .goto 4, 3), (80, .iload_n 2, 1), (81, .iastore, 1), (82, .iload 4, 2), (84, .ifCond .ne 109, 3), (87, .aload_n 0, 1), (88, .getfield 13, 3), (91, .iload_n 2, 1), (92, .aload_n 0, 1), (93, .getfield 13, 3), (96, .iload_n 3, 1), (97, .iaload, 1), (98, .iastore, 1), (99, .aload_n 0, 1), (100, .getfield 16, 3), (103, .iload_n 2, 1), (104, .aload_n 0, 1), (105, .getfield 16, 3), (108, .iload_n 3, 1), (109, .iaload, 1), (110, .iastore, 1), (111, .aload_n 0, 1), (112, .getfield 19, 3), (115, .iload_n 2, 1), (116, .aload_n 0, 1), (117, .getfield 19, 3), (120, .iload_n 3, 1), (121, .iaload, 1), (122, .iastore, 1), (123, .aload_n 0, 1), (124, .getfield 22, 3), (127, .iload_n 2, 1), (128, .aload_n 0, 1), (129, .getfield 22, 3), (132, .iload_n 3, 1), (133, .iaload, 1), (134, .iastore, 1), (135, .aload_n 0, 1), (136, .getfield 25, 3), (139, .iload_n 2, 1), (140, .aload_n 0, 1), (141, .getfield 25, 3), (144, .iload_n 3, 1), (145, .iaload, 1), (146, .iconst (-1), 1), (147, .if_icmp .ne 7, 3), (150, .iconst (-1), 1), (151, .goto 14, 3), (154, .aload_n 0, 1), (155, .getfield 61, 3), (158, .aload_n 0, 1), (159, .getfield 25, 3), (162, .iload_n 3, 1), (163, .iaload, 1), (164, .iaload, 1), (165, .iastore, 1), (166, .aload_n 0, 1), (167, .getfield 28, 3), (170, .iload_n 2, 1), (171, .aload_n 0, 1), (172, .getfield 28, 3), (175, .iload_n 3, 1), (176, .iaload, 1), (177, .iastore, 1), (178, .aload_n 0, 1), (179, .getfield 31, 3), (182, .iload_n 2, 1), (183, .aload_n 0, 1), (184, .getfield 31, 3), (187, .iload_n 3, 1), (188, .iaload, 1), (189, .iastore, 1), (190, .iinc 2 1, 3), (193, .iinc 3 1, 3), (196, .goto (-175), 3), (199, .aload_n 0, 1), (200, .getfield 96, 3), (203, .iload_n 2, 1), (204, .isub, 1), (205, .istore_n 3, 1), (206, .aload_n 0, 1), (207, .iload_n 2, 1), (208, .putfield 96, 3), (211, .aload_n 0, 1), (212, .iconst 0, 1), (213, .putfield 106, 3), (216, .aload_n 0, 1), (217, .iconst 0, 1), (218, .putfield 109, 3), (221, .iload_n 3, 1), (222, .ireturn, 1)])
def q_179 : pm_D := (⟨"StandUpBookModel", "undo", "()I"⟩, 12, prog_14_method_50_code, 1, (Option.some FieldType.int), [(0, .aload_n 0, 1), (1, .getfield 112, 3), (4, .ifCond .ne 8, 3), (7, .aload_n 0, 1), (8, .invokevirtual 231, 3), (11, .ireturn, 1), (12, .aload_n 0, 1), (13, .dup, 1), (14, .getfield 112, 3), (17, .iconst 1, 1), (18, .isub, 1), (19, .putfield 112, 3), (22, .aload_n 0, 1), (23, .aload_n 0, 1), (24, .getfield 55, 3), (27, .bipush 52, 2), (29, .aload_n 0, 1), (30, .getfield 112, 3), (33, .imul, 1), (34, .invokevirtual 243, 3), (37, .aload_n 0, 1), (38, .getfield 100, 3), (41, .ireturn, 1)])
def q_180 : pm_D := (⟨"StandUpBookModel", "of", "(II)I"⟩, 12, prog_14_method_51_code, 3, (Option.some FieldType.int), [(0, .aload_n 0, 1), (1, .iload_n 1, 1), (2, .invokevirtual 240, 3), (5, .ifCond .eq 13, 3), (8, .iload_n 2, 1), (9, .iconst 0, 1), (10, .bipush 7, 2), (12, .invokestatic 115, 3), (15, .ifCond .ne 8, 3), (18, .aload_n 0, 1), (19, .invokevirtual 119, 3), (22, .ireturn, 1), (23, .iload_n 2, 1), (24, .tableswitch 93 0 6 #[44, 51, 58, 65, 72, 79, 86], 44), (68, .aload_n 0, 1), (69, .getfield 13, 3), (72, .iload_n 1, 1), (73, .iaload, 1), (74, .ireturn, 1), (75, .aload_n 0, 1), (76, .getfield 16, 3), (79, .iload_n 1, 1), (80, .iaload, 1), (81, .ireturn, 1), (82, .aload_n 0, 1), (83, .getfield 19, 3), (86, .iload_n 1, 1), (87, .iaload, 1), (88, .ireturn, 1), (89, .aload_n 0, 1), (90, .getfield 22, 3), (93, .iload_n 1, 1), (94, .iaload, 1), (95, .ireturn, 1), (96, .aload_n 0, 1), (97, .getfield 25, 3), (100, .iload_n 1, 1), (101, .iaload, 1), (102, .ireturn, 1), (103, .aload_n 0, 1), (104, .getfield 28, 3), (107, .iload_n 1, 1), (108, .iaload, 1), (109, .ireturn, 1), (110, .aload_n 0, 1), (111, .getfield 31, 3), (114, .iload_n 1, 1), (115, .iaload, 1), (116, .ireturn, 1), (117, .aload_n 0, 1), (118, .iload_n 1, 1), (119, .invokevirtual 202, 3), (122, .ifCond .eq 7, 3), (125, .iconst 1, 1), (126, .goto 4, 3), (129, .iconst 0, 1), (130, .ireturn, 1)])
def q_181 : pm_D := (⟨"StandUpBookModel", "gives", "(III)I"⟩, 12, prog_14_method_52_code, 4, (Option.some FieldType.int), [(0, .aload_n 0, 1), (1, .iload_n 1, 1), (2, .invokevirtual 240, 3), (5, .ifCond .eq 19, 3), (8, .iload_n 2, 1), (9, .invokestatic 228, 3), (12, .ifCond .eq 12, 3), (15, .iload_n 3, 1), (16, .iconst 0, 1), (17, .iconst 2, 1), (18, .invokestatic 115, 3), (21, .ifCond .ne 8, 3), (24, .aload_n 0, 1), (25, .invokevirtual 119, 3), (28, .ireturn, 1), (29, .iload_n 3, 1), (30, .ifCond .ne 28, 3), (33, .aload_n 0, 1), (34, .getfield 13, 3), (37, .iload_n 1, 1), (38, .iaload, 1), (39, .iload_n 2, 1), (40, .aload_n 0, 1), (41, .getfield 19, 3), (44, .iload_n 1, 1), (45, .iaload, 1), (46, .aload_n 0, 1), (47, .getfield 28, 3), (50, .iload_n 1, 1), (51, .iaload, 1), (52, .invokestatic 211, 3), (55, .goto 25, 3), (58, .iload_n 3, 1), (59, .iconst 1, 1), (60, .if_icmp .ne 11, 3), (63, .aload_n 0, 1), (64, .iload_n 1, 1), (65, .invokevirtual 246, 3), (68, .goto 12, 3), (71, .aload_n 0, 1), (72, .getfield 13, 3), (75, .iload_n 1, 1), (76, .iaload, 1), (77, .invokestatic 199, 3), (80, .ireturn, 1)])
def q_182 : pm_D := (⟨"StandUpBookModel", "height", "(II)I"⟩, 12, prog_14_method_53_code, 3, (Option.some FieldType.int), [(0, .aload_n 0, 1), (1, .iload_n 1, 1), (2, .invokevirtual 240, 3), (5, .ifCond .eq 19, 3), (8, .iload_n 2, 1), (9, .invokestatic 228, 3), (12, .ifCond .eq 12, 3), (15, .aload_n 0, 1), (16, .iload_n 1, 1), (17, .iload_n 2, 1), (18, .invokevirtual 219, 3), (21, .goto 7, 3), (24, .aload_n 0, 1), (25, .invokevirtual 119, 3), (28, .ireturn, 1)])
def q_183 : pm_D := (⟨"StandUpBookModel", "seen", "(I)I"⟩, 12, prog_14_method_54_code, 2, (Option.some FieldType.int), [(0, .iload_n 1, 1), (1, .invokestatic 228, 3), (4, .ifCond .eq 11, 3), (7, .aload_n 0, 1), (8, .iload_n 1, 1), (9, .invokevirtual 237, 3), (12, .goto 7, 3), (15, .aload_n 0, 1), (16, .invokevirtual 119, 3), (19, .ireturn, 1)])
def q_184 : pm_D := (⟨"StandUpBookModel", "first", "(I)I"⟩, 12, prog_14_method_55_code, 3, (Option.some FieldType.int), [(0, .aload_n 0, 1), (1, .iload_n 1, 1), (2, .invokevirtual 240, 3), (5, .ifCond .ne 8, 3), (8, .aload_n 0, 1), (9, .invokevirtual 119, 3), (12, .ireturn, 1), (13, .iconst 0, 1), (14, .istore_n 2, 1), (15, .iload_n 2, 1), (16, .bipush 12, 2), (18, .if_icmp .gt 21, 3), (21, .aload_n 0, 1), (22, .iload_n 2, 1), (23, .invokevirtual 237, 3), (26, .iload_n 1, 1), (27, .invokestatic 208, 3), (30, .ifCond .ne 9, 3), (33, .iinc 2 1, 3), (36, .goto (-21), 3), (39, .iload_n 2, 1), (40, .bipush 12, 2), (42, .if_icmp .gt 7, 3), (45, .iload_n 2, 1), (46, .goto 4, 3), (49, .iconst (-1), 1), (50, .ireturn, 1)])
def q_185 : pm_D := (⟨"StandUpBookModel", "best", "(I)I"⟩, 12, prog_14_method_56_code, 6, (Option.some FieldType.int), [(0, .iload_n 1, 1), (1, .iconst 0, 1), (2, .iconst 1, 1), (3, .invokestatic 115, 3), (6, .ifCond .ne 8, 3), (9, .aload_n 0, 1), (10, .invokevirtual 119, 3), (13, .ireturn, 1), (14, .iconst 0, 1), (15, .istore_n 2, 1), (16, .iconst (-1), 1), (17, .istore_n 3, 1), (18, .iconst 0, 1), (19, .istore 4, 2), (21, .iload 4, 2), (23, .bipush 12, 2), (25, .if_icmp .gt 40, 3), (28, .aload_n 0, 1), (29, .iload 4, 2), (31, .invokevirtual 237, 3), (34, .invokestatic 249, 3), (37, .istore 5, 2), (39, .iload 5, 2), (41, .iload_n 3, 1), (42, .if_icmp .le 8, 3), (45, .iload 4, 2), (47, .goto 4, 3), (50, .iload_n 2, 1), (51, .istore_n 2, 1), (52, .iload_n 3, 1), (53, .iload 5, 2), (55, .invokestatic 252, 3), (58, .istore_n 3, 1), (59, .iinc 4 1, 3), (62, .goto (-41), 3), (65, .iload_n 1, 1), (66, .ifCond .ne 7, 3), (69, .iload_n 2, 1), (70, .goto 4, 3), (73, .iload_n 3, 1), (74, .ireturn, 1)])
def q_186 : pm_D := (⟨"StandUpBookModel", "reachAll", "(I)I"⟩, 12, prog_14_method_57_code, 4, (Option.some FieldType.int), [(0, .iconst 0, 1), (1, .istore_n 2, 1), (2, .iload_n 1, 1), (3, .istore_n 3, 1), (4, .iload_n 3, 1), (5, .iconst (-1), 1), (6, .if_icmp .eq 21, 3), (9, .iload_n 2, 1), (10, .aload_n 0, 1), (11, .iload_n 3, 1), (12, .invokevirtual 246, 3), (15, .iadd, 1), (16, .istore_n 2, 1), (17, .aload_n 0, 1), (18, .getfield 25, 3), (21, .iload_n 3, 1), (22, .iaload, 1), (23, .istore_n 3, 1), (24, .goto (-20), 3), (27, .iload_n 2, 1), (28, .ireturn, 1)])
def q_187 : pm_D := (⟨"StandUpBookModel", "out", "(I)I"⟩, 12, prog_14_method_58_code, 5, (Option.some FieldType.int), [(0, .iload_n 1, 1), (1, .iconst 0, 1), (2, .iconst 1, 1), (3, .invokestatic 115, 3), (6, .ifCond .ne 8, 3), (9, .aload_n 0, 1), (10, .invokevirtual 119, 3), (13, .ireturn, 1), (14, .iconst 0, 1), (15, .istore_n 2, 1), (16, .bipush 6, 2), (18, .istore_n 3, 1), (19, .iconst 0, 1), (20, .istore 4, 2), (22, .iload 4, 2), (24, .aload_n 0, 1), (25, .getfield 96, 3), (28, .if_icmp .ge 44, 3), (31, .iload_n 2, 1), (32, .aload_n 0, 1), (33, .iload 4, 2), (35, .invokevirtual 255, 3), (38, .aload_n 0, 1), (39, .getfield 103, 3), (42, .if_icmp .le 10, 3), (45, .iconst 1, 1), (46, .iload 4, 2), (48, .ishl, 1), (49, .goto 4, 3), (52, .iconst 0, 1), (53, .ior, 1), (54, .istore_n 2, 1), (55, .iload_n 3, 1), (56, .aload_n 0, 1), (57, .iload 4, 2), (59, .invokevirtual 255, 3), (62, .invokestatic 252, 3), (65, .istore_n 3, 1), (66, .iinc 4 1, 3), (69, .goto (-47), 3), (72, .iload_n 1, 1), (73, .ifCond .ne 7, 3), (76, .iload_n 2, 1), (77, .goto 14, 3), (80, .iload_n 3, 1), (81, .bipush 40, 2), (83, .if_icmp .gt 7, 3), (86, .iload_n 3, 1), (87, .goto 4, 3), (90, .iconst (-1), 1), (91, .ireturn, 1)])
def q_188 : pm_D := (⟨"StandUpBookModel", "setSeen", "()V"⟩, 12, prog_14_method_59_code, 2, (Option.none : Option FieldType), [(0, .iconst 0, 1), (1, .istore_n 1, 1), (2, .iload_n 1, 1), (3, .bipush 12, 2), (5, .if_icmp .gt 20, 3), (8, .aload_n 0, 1), (9, .getfield 64, 3), (12, .iload_n 1, 1), (13, .aload_n 0, 1), (14, .iload_n 1, 1), (15, .invokevirtual 237, 3), (18, .iastore, 1), (19, .iinc 1 1, 3), (22, .goto (-20), 3), (25, .return_, 1)])
def q_189 : pm_D := (⟨"StandUpBookModel", "isToured", "(III)Z"⟩, 12, prog_14_method_60_code, 6, (Option.some FieldType.boolean), [(0, .iconst 0, 1), (1, .istore 4, 2), (3, .iload_n 2, 1), (4, .istore 5, 2), (6, .iload 5, 2), (8, .iload_n 3, 1), (9, .if_icmp .gt 21, 3), (12, .iload 4, 2), (14, .aload_n 0, 1), (15, .getfield 64, 3), (18, .iload 5, 2), (20, .iaload, 1), (21, .ior, 1), (22, .istore 4, 2), (24, .iinc 5 1, 3), (27, .goto (-21), 3), (30, .iload_n 1, 1), (31, .iload 4, 2), (33, .iconst (-1), 1), (34, .ixor, 1), (35, .iand, 1), (36, .ifCond .ne 7, 3), (39, .iconst 1, 1), (40, .goto 4, 3), (43, .iconst 0, 1), (44, .ireturn, 1)])
def q_190 : pm_D := (⟨"StandUpBookModel", "walkTo", "(I)V"⟩, 12, prog_14_method_61_code, 2, (Option.none : Option FieldType), [(0, .aload_n 0, 1), (1, .getfield 67, 3), (4, .aload_n 0, 1), (5, .getfield 258, 3), (8, .iaload, 1), (9, .iload_n 1, 1), (10, .if_icmp .eq 55, 3), (13, .aload_n 0, 1), (14, .getfield 67, 3), (17, .aload_n 0, 1), (18, .getfield 258, 3), (21, .iconst 1, 1), (22, .iadd, 1), (23, .aload_n 0, 1), (24, .getfield 67, 3), (27, .aload_n 0, 1), (28, .getfield 258, 3), (31, .iaload, 1), (32, .iload_n 1, 1), (33, .aload_n 0, 1), (34, .getfield 67, 3), (37, .aload_n 0, 1), (38, .getfield 258, 3), (41, .iaload, 1), (42, .if_icmp .le 7, 3), (45, .iconst 1, 1), (46, .goto 4, 3), (49, .iconst (-1), 1), (50, .iadd, 1), (51, .iastore, 1), (52, .aload_n 0, 1), (53, .dup, 1), (54, .getfield 258, 3), (57, .iconst 1, 1), (58, .iadd, 1), (59, .putfield 258, 3), (62, .goto (-62), 3), (65, .return_, 1)])
def q_191 : pm_D := (⟨"StandUpBookModel", "setWalk", "(II)V"⟩, 12, prog_14_method_62_code, 3, (Option.none : Option FieldType), [(0, .aload_n 0, 1), (1, .iconst 0, 1), (2, .putfield 258, 3), (5, .aload_n 0, 1), (6, .getfield 67, 3), (9, .iconst 0, 1), (10, .aload_n 0, 1), (11, .getfield 100, 3), (14, .iastore, 1), (15, .aload_n 0, 1), (16, .iload_n 1, 1), (17, .invokevirtual 261, 3), (20, .aload_n 0, 1), (21, .iload_n 2, 1), (22, .invokevirtual 261, 3), (25, .return_, 1)])
def q_192 : pm_D := (⟨"StandUpBookModel", "isSooner", "(I)Z"⟩, 12, prog_14_method_63_code, 3, (Option.some FieldType.boolean), [(0, .aload_n 0, 1), (1, .getfield 258, 3), (4, .iload_n 1, 1), (5, .if_icmp .eq 17, 3), (8, .aload_n 0, 1), (9, .getfield 258, 3), (12, .iload_n 1, 1), (13, .if_icmp .ge 7, 3), (16, .iconst 1, 1), (17, .goto 4, 3), (20, .iconst 0, 1), (21, .ireturn, 1), (22, .iconst 0, 1), (23, .istore_n 2, 1), (24, .iload_n 2, 1), (25, .aload_n 0, 1), (26, .getfield 258, 3), (29, .if_icmp .ge 24, 3), (32, .aload_n 0, 1), (33, .getfield 67, 3), (36, .iload_n 2, 1), (37, .iaload, 1), (38, .aload_n 0, 1), (39, .getfield 70, 3), (42, .iload_n 2, 1), (43, .iaload, 1), (44, .if_icmp .ne 9, 3), (47, .iinc 2 1, 3), (50, .goto (-26), 3), (53, .iload_n 2, 1), (54, .aload_n 0, 1), (55, .getfield 258, 3), (58, .if_icmp .ge 22, 3), (61, .aload_n 0, 1), (62, .getfield 67, 3), (65, .iload_n 2, 1), (66, .iaload, 1), (67, .aload_n 0, 1), (68, .getfield 70, 3), (71, .iload_n 2, 1), (72, .iaload, 1), (73, .if_icmp .ge 7, 3), (76, .iconst 1, 1), (77, .goto 4, 3), (80, .iconst 0, 1), (81, .ireturn, 1)])
def q_193 : pm_D := (⟨"StandUpBookModel", "tour", "(II)I"⟩, 12, prog_14_method_64_code, 8, (Option.some FieldType.int), [(0, .aload_n 0, 1), (1, .iload_n 1, 1), (2, .invokevirtual 264, 3), (5, .ifCond .eq 8, 3), (8, .iload_n 2, 1), (9, .iconst (-1), 1), (10, .if_icmp .ge 8, 3), (13, .aload_n 0, 1), (14, .invokevirtual 267, 3), (17, .ireturn, 1), (18, .aload_n 0, 1), (19, .invokevirtual 270, 3), (22, .ldc_w 273, 3), (25, .istore_n 3, 1), (26, .iconst 0, 1), (27, .istore 4, 2), (29, .iload 4, 2), (31, .aload_n 0, 1), (32, .getfield 100, 3), (35, .if_icmp .gt 128, 3), (38, .aload_n 0, 1), (39, .getfield 100, 3), (42, .istore 5, 2), (44, .iload 5, 2), (46, .bipush 12, 2), (48, .if_icmp .gt 109, 3), (51, .iconst 0, 1), (52, .istore 6, 2), (54, .iload 6, 2), (56, .iconst 2, 1), (57, .if_icmp .ge 94, 3), (60, .aload_n 0, 1), (61, .iload_n 1, 1), (62, .iload 4, 2), (64, .iload 5, 2), (66, .invokevirtual 274, 3), (69, .ifCond .eq 82, 3), (72, .aload_n 0, 1), (73, .iload 6, 2), (75, .ifCond .ne 8, 3), (78, .iload 4, 2), (80, .goto 5, 3), (83, .iload 5, 2), (85, .iload 6, 2), (87, .ifCond .ne 8, 3), (90, .iload 5, 2), (92, .goto 5, 3), (95, .iload 4, 2), (97, .invokevirtual 277, 3), (100, .aload_n 0, 1), (101, .iload_n 3, 1), (102, .invokevirtual 281, 3), (105, .ifCond .eq 40, 3), (108, .aload_n 0, 1), (109, .getfield 258, 3), (112, .istore_n 3, 1), (113, .iconst 0, 1), (114, .istore 7, 2), (116, .iload 7, 2), (118, .aload_n 0, 1), (119, .getfield 258, 3), (122, .if_icmp .gt 23, 3), (125, .aload_n 0, 1), (126, .getfield 70, 3), (129, .iload 7, 2), (131, .aload_n 0, 1), (132, .getfield 67, 3), (135, .iload 7, 2), (137, .iaload, 1), (138, .iastore, 1), (139, .iinc 7 1, 3), (142, .goto (-26), 3), (145, .iinc 6 1, 3), (148, .goto (-94), 3), (151, .iinc 5 1, 3), (154, .goto (-110), 3), (157, .iinc 4 1, 3), (160, .goto (-131), 3), (163, .iload_n 3, 1), (164, .ldc_w 273, 3), (167, .if_icmp .ne 5, 3), (170, .iconst (-1), 1), (171, .ireturn, 1), (172, .iload_n 2, 1), (173, .iconst (-1), 1), (174, .if_icmp .ne 7, 3), (177, .iload_n 3, 1), (178, .goto 19, 3), (181, .iload_n 2, 1), (182, .iload_n 3, 1), (183, .if_icmp .gt 12, 3), (186, .aload_n 0, 1), (187, .getfield 70, 3), (190, .iload_n 2, 1), (191, .iaload, 1), (192, .goto 5, 3), (195, .bipush (-5), 2), (197, .ireturn, 1)])
def q_194 : pm_D := (⟨"StandUpBookModel", "place", "(III)I"⟩, 12, prog_14_method_65_code, 9, (Option.some FieldType.int), [(0, .aload_n 0, 1), (1, .iload_n 1, 1), (2, .invokevirtual 240, 3), (5, .ifCond .eq 19, 3), (8, .iload_n 2, 1), (9, .invokestatic 228, 3), (12, .ifCond .eq 12, 3), (15, .iload_n 3, 1), (16, .iconst 0, 1), (17, .iconst 1, 1), (18, .invokestatic 115, 3), (21, .ifCond .ne 8, 3), (24, .aload_n 0, 1), (25, .invokevirtual 119, 3), (28, .ireturn, 1), (29, .aload_n 0, 1), (30, .getfield 22, 3), (33, .iload_n 1, 1), (34, .iaload, 1), (35, .istore 4, 2), (37, .iconst 0, 1), (38, .istore 5, 2), (40, .iconst (-1), 1), (41, .istore 6, 2), (43, .iconst 0, 1), (44, .istore 7, 2), (46, .iload 7, 2), (48, .bipush 9, 2), (50, .if_icmp .gt 52, 3), (53, .aload_n 0, 1), (54, .getfield 22, 3), (57, .iload_n 1, 1), (58, .iload 7, 2), (60, .iastore, 1), (61, .aload_n 0, 1), (62, .iload_n 2, 1), (63, .invokevirtual 237, 3), (66, .invokestatic 249, 3), (69, .istore 8, 2), (71, .iload 8, 2), (73, .iload 6, 2), (75, .if_icmp .le 8, 3), (78, .iload 7, 2), (80, .goto 5, 3), (83, .iload 5, 2), (85, .istore 5, 2), (87, .iload 6, 2), (89, .iload 8, 2), (91, .invokestatic 252, 3), (94, .istore 6, 2), (96, .iinc 7 1, 3), (99, .goto (-53), 3), (102, .aload_n 0, 1), (103, .getfield 22, 3), (106, .iload_n 1, 1), (107, .iload 4, 2), (109, .iastore, 1), (110, .iload_n 3, 1), (111, .ifCond .ne 8, 3), (114, .iload 5, 2), (116, .goto 5, 3), (119, .iload 6, 2), (121, .ireturn, 1)])
def q_195 : pm_D := (⟨"StandUpBookModel", "isWornBy", "(I)Z"⟩, 12, prog_14_method_66_code, 4, (Option.some FieldType.boolean), [(0, .iconst 0, 1), (1, .istore_n 2, 1), (2, .iconst 0, 1), (3, .istore_n 3, 1), (4, .iload_n 3, 1), (5, .aload_n 0, 1), (6, .getfield 96, 3), (9, .if_icmp .ge 39, 3), (12, .iload_n 2, 1), (13, .ifCond .ne 23, 3), (16, .aload_n 0, 1), (17, .getfield 31, 3), (20, .iload_n 3, 1), (21, .iaload, 1), (22, .iload_n 1, 1), (23, .iadd, 1), (24, .aload_n 0, 1), (25, .getfield 13, 3), (28, .iload_n 3, 1), (29, .iaload, 1), (30, .invokestatic 199, 3), (33, .if_icmp .lt 7, 3), (36, .iconst 1, 1), (37, .goto 4, 3), (40, .iconst 0, 1), (41, .istore_n 2, 1), (42, .iinc 3 1, 3), (45, .goto (-41), 3), (48, .iload_n 2, 1), (49, .ireturn, 1)])
def q_196 : pm_D := (⟨"StandUpBookModel", "lasts", "()I"⟩, 12, prog_14_method_67_code, 2, (Option.some FieldType.int), [(0, .iconst 0, 1), (1, .istore_n 1, 1), (2, .iload_n 1, 1), (3, .bipush 99, 2), (5, .if_icmp .gt 20, 3), (8, .aload_n 0, 1), (9, .bipush 24, 2), (11, .iload_n 1, 1), (12, .imul, 1), (13, .invokevirtual 284, 3), (16, .ifCond .ne 9, 3), (19, .iinc 1 1, 3), (22, .goto (-20), 3), (25, .iload_n 1, 1), (26, .bipush 99, 2), (28, .if_icmp .gt 7, 3), (31, .iload_n 1, 1), (32, .goto 4, 3), (35, .iconst (-1), 1), (36, .ireturn, 1)])
def q_197 : pm_D := (⟨"StandUpBookModel", "goesFrom", "(III)I"⟩, 12, prog_14_method_68_code, 8, (Option.some FieldType.int), [(0, .iconst (-1), 1), (1, .istore 4, 2), (3, .iconst 2, 1), (4, .istore 5, 2), (6, .iload 5, 2), (8, .bipush (-2), 2), (10, .if_icmp .lt 81, 3), (13, .iload_n 2, 1), (14, .iload 5, 2), (16, .iadd, 1), (17, .istore 6, 2), (19, .iload 6, 2), (21, .invokestatic 228, 3), (24, .ifCond .eq 16, 3), (27, .iload_n 1, 1), (28, .iload 6, 2), (30, .invokestatic 208, 3), (33, .ifCond .ne 7, 3), (36, .iconst 1, 1), (37, .goto 4, 3), (40, .iconst 0, 1), (41, .istore 7, 2), (43, .iload 7, 2), (45, .ifCond .eq 36, 3), (48, .iload_n 3, 1), (49, .iload 6, 2), (51, .invokestatic 208, 3), (54, .ifCond .ne 22, 3), (57, .aload_n 0, 1), (58, .getfield 73, 3), (61, .iload_n 1, 1), (62, .iconst 1, 1), (63, .iload 6, 2), (65, .ishl, 1), (66, .ior, 1), (67, .iaload, 1), (68, .iload 6, 2), (70, .invokestatic 208, 3), (73, .ifCond .ne 8, 3), (76, .iload 6, 2), (78, .goto 5, 3), (81, .iload 4, 2), (83, .istore 4, 2), (85, .iinc 5 (-1), 3), (88, .goto (-82), 3), (91, .iload 4, 2), (93, .ireturn, 1)])
def q_198 : pm_D := (⟨"StandUpBookModel", "turns", "(II)I"⟩, 12, prog_14_method_69_code, 6, (Option.some FieldType.int), [(0, .aload_n 0, 1), (1, .iload_n 1, 1), (2, .invokevirtual 240, 3), (5, .ifCond .eq 12, 3), (8, .iload_n 2, 1), (9, .iconst 0, 1), (10, .iconst 1, 1), (11, .invokestatic 115, 3), (14, .ifCond .ne 8, 3), (17, .aload_n 0, 1), (18, .invokevirtual 119, 3), (21, .ireturn, 1), (22, .aload_n 0, 1), (23, .invokevirtual 270, 3), (26, .iconst 0, 1), (27, .istore_n 3, 1), (28, .iconst 0, 1), (29, .istore 4, 2), (31, .iload 4, 2), (33, .bipush 12, 2), (35, .if_icmp .gt 34, 3), (38, .iload_n 3, 1), (39, .aload_n 0, 1), (40, .getfield 64, 3), (43, .iload 4, 2), (45, .iaload, 1), (46, .iload_n 1, 1), (47, .invokestatic 208, 3), (50, .ifCond .eq 10, 3), (53, .iconst 1, 1), (54, .iload 4, 2), (56, .ishl, 1), (57, .goto 4, 3), (60, .iconst 0, 1), (61, .ior, 1), (62, .istore_n 3, 1), (63, .iinc 4 1, 3), (66, .goto (-35), 3), (69, .iload_n 3, 1), (70, .aload_n 0, 1), (71, .getfield 100, 3), (74, .invokestatic 208, 3), (77, .ifCond .eq 13, 3), (80, .iload_n 2, 1), (81, .ifCond .ne 7, 3), (84, .iconst 2, 1), (85, .goto 4, 3), (88, .iconst (-1), 1), (89, .ireturn, 1), (90, .sipush 8191, 3), (93, .istore 4, 2), (95, .iload 4, 2), (97, .ifCond .le 74, 3), (100, .aload_n 0, 1), (101, .getfield 73, 3), (104, .iload 4, 2), (106, .iconst 0, 1), (107, .iastore, 1), (108, .iconst 0, 1), (109, .istore 5, 2), (111, .iload 5, 2), (113, .bipush 12, 2), (115, .if_icmp .gt 50, 3), (118, .aload_n 0, 1), (119, .getfield 73, 3), (122, .iload 4, 2), (124, .dup2, 1), (125, .iaload, 1), (126, .iload 4, 2), (128, .iload 5, 2), (130, .invokestatic 208, 3), (133, .ifCond .eq 23, 3), (136, .aload_n 0, 1), (137, .iload 4, 2), (139, .iload 5, 2), (141, .iload_n 3, 1), (142, .invokevirtual 287, 3), (145, .iconst (-1), 1), (146, .if_icmp .eq 10, 3), (149, .iconst 1, 1), (150, .iload 5, 2), (152, .ishl, 1), (153, .goto 4, 3), (156, .iconst 0, 1), (157, .ior, 1), (158, .iastore, 1), (159, .iinc 5 1, 3), (162, .goto (-51), 3), (165, .iinc 4 (-1), 3), (168, .goto (-73), 3), (171, .aload_n 0, 1), (172, .iconst 1, 1), (173, .aload_n 0, 1), (174, .getfield 100, 3), (177, .ishl, 1), (178, .aload_n 0, 1), (179, .getfield 100, 3), (182, .iload_n 3, 1), (183, .invokevirtual 287, 3), (186, .istore 4, 2), (188, .iload_n 2, 1), (189, .iconst 1, 1), (190, .if_icmp .ne 8, 3), (193, .iload 4, 2), (195, .goto 14, 3), (198, .iload 4, 2), (200, .iconst (-1), 1), (201, .if_icmp .ne 7, 3), (204, .iconst 0, 1), (205, .goto 4, 3), (208, .iconst 1, 1), (209, .ireturn, 1)])
def q_199 : pm_D := (⟨"StandUpBookModel", "note", "(IIIII)I"⟩, 12, prog_14_method_70_code, 7, (Option.some FieldType.int), [(0, .aload_n 0, 1), (1, .iload_n 1, 1), (2, .invokevirtual 240, 3), (5, .ifCond .eq 41, 3), (8, .iload_n 2, 1), (9, .iconst 1, 1), (10, .bipush 9, 2), (12, .invokestatic 115, 3), (15, .ifCond .eq 31, 3), (18, .iload_n 3, 1), (19, .invokestatic 228, 3), (22, .ifCond .eq 24, 3), (25, .iload 4, 2), (27, .iconst 0, 1), (28, .iconst 3, 1), (29, .invokestatic 115, 3), (32, .ifCond .eq 14, 3), (35, .iload 5, 2), (37, .iconst 0, 1), (38, .bipush 20, 2), (40, .invokestatic 115, 3), (43, .ifCond .ne 8, 3), (46, .aload_n 0, 1), (47, .invokevirtual 119, 3), (50, .ireturn, 1), (51, .aload_n 0, 1), (52, .getfield 106, 3), (55, .bipush 6, 2), (57, .if_icmp .ne 8, 3), (60, .aload_n 0, 1), (61, .invokevirtual 123, 3), (64, .ireturn, 1), (65, .iconst 5, 1), (66, .aload_n 0, 1), (67, .getfield 106, 3), (70, .imul, 1), (71, .istore 6, 2), (73, .aload_n 0, 1), (74, .getfield 34, 3), (77, .iload 6, 2), (79, .iload_n 1, 1), (80, .iastore, 1), (81, .aload_n 0, 1), (82, .getfield 34, 3), (85, .iload 6, 2), (87, .iconst 1, 1), (88, .iadd, 1), (89, .iload_n 2, 1), (90, .iastore, 1), (91, .aload_n 0, 1), (92, .getfield 34, 3), (95, .iload 6, 2), (97, .iconst 2, 1), (98, .iadd, 1), (99, .iload_n 3, 1), (100, .iastore, 1), (101, .aload_n 0, 1), (102, .getfield 34, 3), (105, .iload 6, 2), (107, .iconst 3, 1), (108, .iadd, 1), (109, .iload 4, 2), (111, .iastore, 1), (112, .aload_n 0, 1), (113, .getfield 34, 3), (116, .iload 6, 2), (118, .iconst 4, 1), (119, .iadd, 1), (120, .iload 5, 2), (122, .iastore, 1), (123, .aload_n 0, 1), (124, .dup, 1), (125, .getfield 106, 3), (128, .iconst 1, 1), (129, .iadd, 1), (130, .putfield 106, 3), (133, .aload_n 0, 1), (134, .getfield 106, 3), (137, .ireturn, 1)])
def q_200 : pm_D := (⟨"StandUpBookModel", "stood", "(II)I"⟩, 12, prog_14_method_71_code, 3, (Option.some FieldType.int), [(0, .iload_n 1, 1), (1, .invokestatic 228, 3), (4, .ifCond .eq 11, 3), (7, .aload_n 0, 1), (8, .iload_n 2, 1), (9, .invokevirtual 264, 3), (12, .ifCond .ne 8, 3), (15, .aload_n 0, 1), (16, .invokevirtual 119, 3), (19, .ireturn, 1), (20, .aload_n 0, 1), (21, .getfield 109, 3), (24, .bipush 6, 2), (26, .if_icmp .ne 8, 3), (29, .aload_n 0, 1), (30, .invokevirtual 123, 3), (33, .ireturn, 1), (34, .aload_n 0, 1), (35, .getfield 37, 3), (38, .aload_n 0, 1), (39, .getfield 109, 3), (42, .iload_n 1, 1), (43, .iastore, 1), (44, .aload_n 0, 1), (45, .getfield 40, 3), (48, .aload_n 0, 1), (49, .getfield 109, 3), (52, .iload_n 2, 1), (53, .iastore, 1), (54, .aload_n 0, 1), (55, .dup, 1), (56, .getfield 109, 3), (59, .iconst 1, 1), (60, .iadd, 1), (61, .putfield 109, 3), (64, .aload_n 0, 1), (65, .getfield 109, 3), (68, .ireturn, 1)])
def q_201 : pm_D := (⟨"StandUpBookModel", "forget", "(I)I"⟩, 12, prog_14_method_72_code, 3, (Option.some FieldType.int), [(0, .iload_n 1, 1), (1, .iconst 0, 1), (2, .iconst 1, 1), (3, .invokestatic 115, 3), (6, .ifCond .ne 8, 3), (9, .aload_n 0, 1), (10, .invokevirtual 119, 3), (13, .ireturn, 1), (14, .iload_n 1, 1), (15, .ifCond .ne 10, 3), (18, .aload_n 0, 1), (19, .getfield 106, 3), (22, .goto 7, 3), (25, .aload_n 0, 1), (26, .getfield 109, 3), (29, .istore_n 2, 1), (30, .aload_n 0, 1), (31, .iload_n 1, 1), (32, .ifCond .ne 7, 3), (35, .iconst 0, 1), (36, .goto 7, 3), (39, .aload_n 0, 1), (40, .getfield 106, 3), (43, .putfield 106, 3), (46, .aload_n 0, 1), (47, .iload_n 1, 1), (48, .iconst 1, 1), (49, .if_icmp .ne 7, 3), (52, .iconst 0, 1), (53, .goto 7, 3), (56, .aload_n 0, 1), (57, .getfield 109, 3), (60, .putfield 109, 3), (63, .iload_n 2, 1), (64, .ireturn, 1)])
def q_202 : pm_D := (⟨"StandUpBookModel", "kindsOf", "(I)I"⟩, 12, prog_14_method_73_code, 7, (Option.some FieldType.int), [(0, .iconst 0, 1), (1, .istore_n 2, 1), (2, .iconst 0, 1), (3, .istore_n 3, 1), (4, .iload_n 3, 1), (5, .iconst 5, 1), (6, .if_icmp .gt 125, 3), (9, .iconst 1, 1), (10, .istore 4, 2), (12, .iconst 0, 1), (13, .istore 5, 2), (15, .iload 5, 2), (17, .iconst 5, 1), (18, .aload_n 0, 1), (19, .getfield 106, 3), (22, .imul, 1), (23, .if_icmp .ge 87, 3), (26, .iload_n 3, 1), (27, .aload_n 0, 1), (28, .getfield 34, 3), (31, .iload 5, 2), (33, .iconst 2, 1), (34, .iadd, 1), (35, .iaload, 1), (36, .aload_n 0, 1), (37, .getfield 34, 3), (40, .iload 5, 2), (42, .iconst 1, 1), (43, .iadd, 1), (44, .iaload, 1), (45, .aload_n 0, 1), (46, .getfield 34, 3), (49, .iload 5, 2), (51, .iconst 3, 1), (52, .iadd, 1), (53, .iaload, 1), (54, .invokestatic 211, 3), (57, .aload_n 0, 1), (58, .getfield 34, 3), (61, .iload 5, 2), (63, .iconst 4, 1), (64, .iadd, 1), (65, .iaload, 1), (66, .if_icmp .ne 7, 3), (69, .iconst 1, 1), (70, .goto 4, 3), (73, .iconst 0, 1), (74, .istore 6, 2), (76, .iload 4, 2), (78, .ifCond .eq 23, 3), (81, .aload_n 0, 1), (82, .getfield 34, 3), (85, .iload 5, 2), (87, .iaload, 1), (88, .iload_n 1, 1), (89, .if_icmp .ne 8, 3), (92, .iload 6, 2), (94, .ifCond .eq 7, 3), (97, .iconst 1, 1), (98, .goto 4, 3), (101, .iconst 0, 1), (102, .istore 4, 2), (104, .iinc 5 5, 3), (107, .goto (-92), 3), (110, .iload_n 2, 1), (111, .iload 4, 2), (113, .ifCond .eq 9, 3), (116, .iconst 1, 1), (117, .iload_n 3, 1), (118, .ishl, 1), (119, .goto 4, 3), (122, .iconst 0, 1), (123, .ior, 1), (124, .istore_n 2, 1), (125, .iinc 3 1, 3), (128, .goto (-124), 3), (131, .iload_n 2, 1), (132, .ireturn, 1)])
def q_203 : pm_D := (⟨"StandUpBookModel", "is", "(I)I"⟩, 12, prog_14_method_74_code, 2, (Option.some FieldType.int), [(0, .aload_n 0, 1), (1, .iload_n 1, 1), (2, .invokevirtual 240, 3), (5, .ifCond .eq 11, 3), (8, .aload_n 0, 1), (9, .iload_n 1, 1), (10, .invokevirtual 291, 3), (13, .goto 7, 3), (16, .aload_n 0, 1), (17, .invokevirtual 119, 3), (20, .ireturn, 1)])
def q_204 : pm_D := (⟨"StandUpBookModel", "alike", "(IIII)I"⟩, 12, prog_14_method_75_code, 8, (Option.some FieldType.int), [(0, .iconst 0, 1), (1, .istore 4, 2), (3, .iconst 0, 1), (4, .istore 5, 2), (6, .iload 5, 2), (8, .iconst 5, 1), (9, .if_icmp .gt 83, 3), (12, .iconst 0, 1), (13, .istore 6, 2), (15, .iconst 0, 1), (16, .istore 7, 2), (18, .iload 7, 2), (20, .iconst 5, 1), (21, .if_icmp .gt 56, 3), (24, .iload 6, 2), (26, .iload_n 0, 1), (27, .iload 5, 2), (29, .invokestatic 208, 3), (32, .ifCond .eq 35, 3), (35, .iload_n 0, 1), (36, .iload 7, 2), (38, .invokestatic 208, 3), (41, .ifCond .eq 26, 3), (44, .iload 5, 2), (46, .iload_n 1, 1), (47, .iload_n 2, 1), (48, .iload_n 3, 1), (49, .invokestatic 211, 3), (52, .iload 7, 2), (54, .iload_n 1, 1), (55, .iload_n 2, 1), (56, .iload_n 3, 1), (57, .invokestatic 211, 3), (60, .if_icmp .ne 7, 3), (63, .iconst 1, 1), (64, .goto 4, 3), (67, .iconst 0, 1), (68, .iadd, 1), (69, .istore 6, 2), (71, .iinc 7 1, 3), (74, .goto (-56), 3), (77, .iload 4, 2), (79, .iload 6, 2), (81, .invokestatic 252, 3), (84, .istore 4, 2), (86, .iinc 5 1, 3), (89, .goto (-83), 3), (92, .iload 4, 2), (94, .ireturn, 1)])
def q_205 : pm_D := (⟨"StandUpBookModel", "look", "(I)I"⟩, 12, prog_14_method_76_code, 8, (Option.some FieldType.int), [(0, .aload_n 0, 1), (1, .iload_n 1, 1), (2, .invokevirtual 240, 3), (5, .ifCond .ne 8, 3), (8, .aload_n 0, 1), (9, .invokevirtual 119, 3), (12, .ireturn, 1), (13, .aload_n 0, 1), (14, .iload_n 1, 1), (15, .invokevirtual 291, 3), (18, .istore_n 2, 1), (19, .iconst (-1), 1), (20, .istore_n 3, 1), (21, .ldc_w 273, 3), (24, .istore 4, 2), (26, .iconst 0, 1), (27, .istore 5, 2), (29, .iload 5, 2), (31, .bipush 12, 2), (33, .if_icmp .gt 73, 3), (36, .iload_n 2, 1), (37, .ifCond .eq 69, 3), (40, .iconst 0, 1), (41, .istore 6, 2), (43, .iload 6, 2), (45, .iconst 4, 1), (46, .if_icmp .ge 54, 3), (49, .iload_n 2, 1), (50, .iload 5, 2), (52, .aload_n 0, 1), (53, .getfield 19, 3), (56, .iload_n 1, 1), (57, .iaload, 1), (58, .iload 6, 2), (60, .invokestatic 294, 3), (63, .istore 7, 2), (65, .iload 7, 2), (67, .iload 4, 2), (69, .if_icmp .ge 14, 3), (72, .bipush 10, 2), (74, .iload 5, 2), (76, .imul, 1), (77, .iload 6, 2), (79, .iadd, 1), (80, .goto 4, 3), (83, .iload_n 3, 1), (84, .istore_n 3, 1), (85, .iload 4, 2), (87, .iload 7, 2), (89, .invokestatic 225, 3), (92, .istore 4, 2), (94, .iinc 6 1, 3), (97, .goto (-54), 3), (100, .iinc 5 1, 3), (103, .goto (-74), 3), (106, .iload_n 3, 1), (107, .ireturn, 1)])
def q_206 : pm_D := (⟨"StandUpBookModel", "isStood", "()Z"⟩, 12, prog_14_method_77_code, 3, (Option.some FieldType.boolean), [(0, .iconst 1, 1), (1, .istore_n 1, 1), (2, .iconst 0, 1), (3, .istore_n 2, 1), (4, .iload_n 2, 1), (5, .aload_n 0, 1), (6, .getfield 109, 3), (9, .if_icmp .ge 38, 3), (12, .iload_n 1, 1), (13, .ifCond .eq 26, 3), (16, .aload_n 0, 1), (17, .aload_n 0, 1), (18, .getfield 37, 3), (21, .iload_n 2, 1), (22, .iaload, 1), (23, .invokevirtual 237, 3), (26, .aload_n 0, 1), (27, .getfield 40, 3), (30, .iload_n 2, 1), (31, .iaload, 1), (32, .if_icmp .ne 7, 3), (35, .iconst 1, 1), (36, .goto 4, 3), (39, .iconst 0, 1), (40, .istore_n 1, 1), (41, .iinc 2 1, 3), (44, .goto (-40), 3), (47, .iload_n 1, 1), (48, .ireturn, 1)])
def q_207 : pm_D := (⟨"StandUpBookModel", "where", "(II)I"⟩, 12, prog_14_method_78_code, 7, (Option.some FieldType.int), [(0, .aload_n 0, 1), (1, .iload_n 1, 1), (2, .invokevirtual 240, 3), (5, .ifCond .eq 12, 3), (8, .iload_n 2, 1), (9, .iconst 0, 1), (10, .iconst 1, 1), (11, .invokestatic 115, 3), (14, .ifCond .ne 8, 3), (17, .aload_n 0, 1), (18, .invokevirtual 119, 3), (21, .ireturn, 1), (22, .aload_n 0, 1), (23, .getfield 22, 3), (26, .iload_n 1, 1), (27, .iaload, 1), (28, .istore_n 3, 1), (29, .aload_n 0, 1), (30, .getfield 19, 3), (33, .iload_n 1, 1), (34, .iaload, 1), (35, .istore 4, 2), (37, .iconst 0, 1), (38, .istore 5, 2), (40, .iload_n 2, 1), (41, .istore 6, 2), (43, .iload 6, 2), (45, .bipush 9, 2), (47, .if_icmp .gt 63, 3), (50, .aload_n 0, 1), (51, .getfield 22, 3), (54, .iload_n 1, 1), (55, .iload_n 2, 1), (56, .ifCond .ne 8, 3), (59, .iload 6, 2), (61, .goto 4, 3), (64, .iload_n 3, 1), (65, .iastore, 1), (66, .aload_n 0, 1), (67, .getfield 19, 3), (70, .iload_n 1, 1), (71, .iload_n 2, 1), (72, .iconst 1, 1), (73, .if_icmp .ne 8, 3), (76, .iload 6, 2), (78, .goto 5, 3), (81, .iload 4, 2), (83, .iastore, 1), (84, .iload 5, 2), (86, .aload_n 0, 1), (87, .invokevirtual 297, 3), (90, .ifCond .eq 10, 3), (93, .iconst 1, 1), (94, .iload 6, 2), (96, .ishl, 1), (97, .goto 4, 3), (100, .iconst 0, 1), (101, .ior, 1), (102, .istore 5, 2), (104, .iinc 6 1, 3), (107, .goto (-64), 3), (110, .aload_n 0, 1), (111, .getfield 22, 3), (114, .iload_n 1, 1), (115, .iload_n 3, 1), (116, .iastore, 1), (117, .aload_n 0, 1), (118, .getfield 19, 3), (121, .iload_n 1, 1), (122, .iload 4, 2), (124, .iastore, 1), (125, .iload 5, 2), (127, .ireturn, 1)])
def q_208 : pm_D := (⟨"StandUpBookModel", "firstGets", "(II)I"⟩, 12, prog_14_method_79_code, 3, (Option.some FieldType.int), [(0, .aload_n 0, 1), (1, .getfield 76, 3), (4, .iload_n 1, 1), (5, .iload_n 2, 1), (6, .invokestatic 252, 3), (9, .iaload, 1), (10, .iload_n 1, 1), (11, .iconst 4, 1), (12, .idiv, 1), (13, .isub, 1), (14, .ireturn, 1)])
def q_209 : pm_D := (⟨"StandUpBookModel", "secondGets", "(II)I"⟩, 12, prog_14_method_80_code, 3, (Option.some FieldType.int), [(0, .aload_n 0, 1), (1, .getfield 79, 3), (4, .iload_n 1, 1), (5, .iload_n 2, 1), (6, .invokestatic 252, 3), (9, .iaload, 1), (10, .iload_n 2, 1), (11, .iconst 4, 1), (12, .idiv, 1), (13, .isub, 1), (14, .ireturn, 1)])
def q_210 : pm_D := (⟨"StandUpBookModel", "rests", "(II)Z"⟩, 12, prog_14_method_81_code, 5, (Option.some FieldType.boolean), [(0, .iconst 1, 1), (1, .istore_n 3, 1), (2, .iconst 0, 1), (3, .istore 4, 2), (5, .iload 4, 2), (7, .bipush 12, 2), (9, .if_icmp .gt 51, 3), (12, .iload_n 3, 1), (13, .ifCond .eq 39, 3), (16, .aload_n 0, 1), (17, .iload_n 1, 1), (18, .iload_n 2, 1), (19, .invokevirtual 300, 3), (22, .aload_n 0, 1), (23, .iload 4, 2), (25, .iload_n 2, 1), (26, .invokevirtual 300, 3), (29, .if_icmp .lt 23, 3), (32, .aload_n 0, 1), (33, .iload_n 1, 1), (34, .iload_n 2, 1), (35, .invokevirtual 303, 3), (38, .aload_n 0, 1), (39, .iload_n 1, 1), (40, .iload 4, 2), (42, .invokevirtual 303, 3), (45, .if_icmp .lt 7, 3), (48, .iconst 1, 1), (49, .goto 4, 3), (52, .iconst 0, 1), (53, .istore_n 3, 1), (54, .iinc 4 1, 3), (57, .goto (-52), 3), (60, .iload_n 3, 1), (61, .ireturn, 1)])
def q_211 : pm_D := (⟨"StandUpBookModel", "seats", "(I)I"⟩, 12, prog_14_method_82_code, 6, (Option.some FieldType.int), [(0, .iload_n 1, 1), (1, .iconst (-1), 1), (2, .if_icmp .ge 8, 3), (5, .aload_n 0, 1), (6, .invokevirtual 267, 3), (9, .ireturn, 1), (10, .iconst 0, 1), (11, .istore_n 2, 1), (12, .iload_n 2, 1), (13, .bipush 12, 2), (15, .if_icmp .gt 67, 3), (18, .aload_n 0, 1), (19, .getfield 76, 3), (22, .iload_n 2, 1), (23, .aload_n 0, 1), (24, .iload_n 2, 1), (25, .invokevirtual 237, 3), (28, .invokestatic 249, 3), (31, .iastore, 1), (32, .aload_n 0, 1), (33, .getfield 79, 3), (36, .iload_n 2, 1), (37, .iconst 0, 1), (38, .iastore, 1), (39, .iconst 0, 1), (40, .istore_n 3, 1), (41, .iload_n 3, 1), (42, .aload_n 0, 1), (43, .getfield 96, 3), (46, .if_icmp .ge 30, 3), (49, .aload_n 0, 1), (50, .getfield 79, 3), (53, .iload_n 2, 1), (54, .aload_n 0, 1), (55, .getfield 79, 3), (58, .iload_n 2, 1), (59, .iaload, 1), (60, .aload_n 0, 1), (61, .iload_n 3, 1), (62, .iload_n 2, 1), (63, .invokevirtual 219, 3), (66, .invokestatic 252, 3), (69, .iastore, 1), (70, .iinc 3 1, 3), (73, .goto (-32), 3), (76, .iinc 2 1, 3), (79, .goto (-67), 3), (82, .iconst 0, 1), (83, .istore_n 2, 1), (84, .bipush (-5), 2), (86, .istore_n 3, 1), (87, .iconst 0, 1), (88, .istore 4, 2), (90, .iload 4, 2), (92, .bipush 12, 2), (94, .if_icmp .gt 57, 3), (97, .iconst 0, 1), (98, .istore 5, 2), (100, .iload 5, 2), (102, .bipush 12, 2), (104, .if_icmp .gt 41, 3), (107, .aload_n 0, 1), (108, .iload 4, 2), (110, .iload 5, 2), (112, .invokevirtual 306, 3), (115, .ifCond .eq 24, 3), (118, .iload_n 2, 1), (119, .iload_n 1, 1), (120, .if_icmp .ne 14, 3), (123, .bipush 13, 2), (125, .iload 4, 2), (127, .imul, 1), (128, .iload 5, 2), (130, .iadd, 1), (131, .goto 4, 3), (134, .iload_n 3, 1), (135, .istore_n 3, 1), (136, .iinc 2 1, 3), (139, .iinc 5 1, 3), (142, .goto (-42), 3), (145, .iinc 4 1, 3), (148, .goto (-58), 3), (151, .iload_n 1, 1), (152, .iconst (-1), 1), (153, .if_icmp .ne 7, 3), (156, .iload_n 2, 1), (157, .goto 4, 3), (160, .iload_n 3, 1), (161, .ireturn, 1)])
def q_212 : pm_D := (⟨"StandUpBookModel", "lay", "(JJ)V"⟩, 12, prog_14_method_83_code, 11, (Option.none : Option FieldType), [(0, .lload_n 1, 1), (1, .lstore 5, 2), (3, .lload_n 3, 1), (4, .lstore 7, 2), (6, .lload 7, 2), (8, .lconst 0, 1), (9, .lcmp, 1), (10, .ifCond .eq 21, 3), (13, .lload 5, 2), (15, .lload 7, 2), (17, .lrem, 1), (18, .lstore 9, 2), (20, .lload 7, 2), (22, .lstore 5, 2), (24, .lload 9, 2), (26, .lstore 7, 2), (28, .goto (-22), 3), (31, .aload_n 0, 1), (32, .lload_n 1, 1), (33, .lload 5, 2), (35, .ldiv, 1), (36, .putfield 309, 3), (39, .aload_n 0, 1), (40, .lload_n 3, 1), (41, .lload 5, 2), (43, .ldiv, 1), (44, .putfield 82, 3), (47, .return_, 1)])
def q_213 : pm_D := (⟨"StandUpBookModel", "sticks", "(II)I"⟩, 12, prog_14_method_84_code, 12, (Option.some FieldType.int), [(0, .iload_n 1, 1), (1, .invokestatic 228, 3), (4, .ifCond .eq 13, 3), (7, .iload_n 2, 1), (8, .iconst 0, 1), (9, .bipush 10, 2), (11, .invokestatic 115, 3), (14, .ifCond .ne 8, 3), (17, .aload_n 0, 1), (18, .invokevirtual 119, 3), (21, .ireturn, 1), (22, .iconst 0, 1), (23, .istore_n 3, 1), (24, .lconst 1, 1), (25, .lstore 4, 2), (27, .iconst 0, 1), (28, .istore 6, 2), (30, .iload 6, 2), (32, .aload_n 0, 1), (33, .getfield 96, 3), (36, .if_icmp .ge 50, 3), (39, .iload_n 3, 1), (40, .aload_n 0, 1), (41, .iload 6, 2), (43, .invokevirtual 202, 3), (46, .ifCond .eq 7, 3), (49, .iconst 0, 1), (50, .goto 7, 3), (53, .iconst 1, 1), (54, .iload 6, 2), (56, .ishl, 1), (57, .ior, 1), (58, .istore_n 3, 1), (59, .lload 4, 2), (61, .aload_n 0, 1), (62, .iload 6, 2), (64, .invokevirtual 202, 3), (67, .ifCond .eq 7, 3), (70, .lconst 1, 1), (71, .goto 6, 3), (74, .ldc2_w 312, 3), (77, .lmul, 1), (78, .lstore 4, 2), (80, .iinc 6 1, 3), (83, .goto (-53), 3), (86, .lconst 0, 1), (87, .lstore 6, 2), (89, .iconst 0, 1), (90, .istore 8, 2), (92, .iload 8, 2), (94, .iload_n 3, 1), (95, .if_icmp .gt 98, 3), (98, .iload 8, 2), (100, .iload_n 3, 1), (101, .iconst (-1), 1), (102, .ixor, 1), (103, .iand, 1), (104, .ifCond .ne 83, 3), (107, .aload_n 0, 1), (108, .iload 8, 2), (110, .putfield 205, 3), (113, .aload_n 0, 1), (114, .iload_n 1, 1), (115, .invokevirtual 237, 3), (118, .invokestatic 249, 3), (121, .i2l, 1), (122, .lstore 9, 2), (124, .iconst 0, 1), (125, .istore 11, 2), (127, .iload 11, 2), (129, .aload_n 0, 1), (130, .getfield 96, 3), (133, .if_icmp .ge 47, 3), (136, .lload 9, 2), (138, .iload_n 3, 1), (139, .iload 11, 2), (141, .invokestatic 208, 3), (144, .ifCond .ne 7, 3), (147, .lconst 1, 1), (148, .goto 23, 3), (151, .iload 8, 2), (153, .iload 11, 2), (155, .invokestatic 208, 3), (158, .ifCond .eq 8, 3), (161, .iload_n 2, 1), (162, .i2l, 1), (163, .goto 8, 3), (166, .bipush 10, 2), (168, .iload_n 2, 1), (169, .isub, 1), (170, .i2l, 1), (171, .lmul, 1), (172, .lstore 9, 2), (174, .iinc 11 1, 3), (177, .goto (-50), 3), (180, .lload 6, 2), (182, .lload 9, 2), (184, .ladd, 1), (185, .lstore 6, 2), (187, .iinc 8 1, 3), (190, .goto (-98), 3), (193, .aload_n 0, 1), (194, .iconst 0, 1), (195, .putfield 205, 3), (198, .aload_n 0, 1), (199, .lload 6, 2), (201, .lload 4, 2), (203, .invokevirtual 314, 3), (206, .iconst 1, 1), (207, .ireturn, 1)])
def q_214 : pm_D := (⟨"StandUpBookModel", "readers", "(II)I"⟩, 12, prog_14_method_85_code, 7, (Option.some FieldType.int), [(0, .iload_n 1, 1), (1, .iconst 0, 1), (2, .ldc_w 318, 3), (5, .invokestatic 115, 3), (8, .ifCond .eq 13, 3), (11, .iload_n 2, 1), (12, .iconst 0, 1), (13, .bipush 60, 2), (15, .invokestatic 115, 3), (18, .ifCond .ne 8, 3), (21, .aload_n 0, 1), (22, .invokevirtual 119, 3), (25, .ireturn, 1), (26, .aload_n 0, 1), (27, .aload_n 0, 1), (28, .getfield 58, 3), (31, .iconst 0, 1), (32, .invokevirtual 222, 3), (35, .iload_n 1, 1), (36, .i2l, 1), (37, .lstore_n 3, 1), (38, .iconst 0, 1), (39, .istore 5, 2), (41, .iconst 0, 1), (42, .istore 6, 2), (44, .iload 6, 2), (46, .iload_n 2, 1), (47, .if_icmp .ge 53, 3), (50, .lload_n 3, 1), (51, .ldc2_w 319, 3), (54, .lmul, 1), (55, .ldc2_w 321, 3), (58, .ladd, 1), (59, .ldc2_w 323, 3), (62, .lrem, 1), (63, .lstore_n 3, 1), (64, .aload_n 0, 1), (65, .lload_n 3, 1), (66, .ldc2_w 325, 3), (69, .ldiv, 1), (70, .ldc2_w 327, 3), (73, .lrem, 1), (74, .l2i, 1), (75, .invokevirtual 167, 3), (78, .iload 5, 2), (80, .aload_n 0, 1), (81, .aload_n 0, 1), (82, .getfield 100, 3), (85, .invokevirtual 237, 3), (88, .invokestatic 249, 3), (91, .iadd, 1), (92, .istore 5, 2), (94, .iinc 6 1, 3), (97, .goto (-53), 3), (100, .aload_n 0, 1), (101, .aload_n 0, 1), (102, .getfield 58, 3), (105, .iconst 0, 1), (106, .invokevirtual 243, 3), (109, .iload 5, 2), (111, .ireturn, 1)])
def q_215 : pm_D := (⟨"StandUpBookModel", "part", "(I)J"⟩, 12, prog_14_method_86_code, 2, (Option.some FieldType.long), [(0, .iload_n 1, 1), (1, .ifCond .ne 10, 3), (4, .aload_n 0, 1), (5, .getfield 309, 3), (8, .goto 20, 3), (11, .iload_n 1, 1), (12, .iconst 1, 1), (13, .if_icmp .ne 10, 3), (16, .aload_n 0, 1), (17, .getfield 82, 3), (20, .goto 8, 3), (23, .aload_n 0, 1), (24, .invokevirtual 119, 3), (27, .i2l, 1), (28, .lreturn, 1)])
def q_216 : pm_D := (⟨"StandUpBookModel", "layAll", "([II)V"⟩, 12, prog_14_method_87_code, 4, (Option.none : Option FieldType), [(0, .aload_n 0, 1), (1, .aload_n 1, 1), (2, .iload_n 2, 1), (3, .invokevirtual 222, 3), (6, .aload_n 1, 1), (7, .iload_n 2, 1), (8, .bipush 52, 2), (10, .iadd, 1), (11, .aload_n 0, 1), (12, .getfield 106, 3), (15, .iastore, 1), (16, .aload_n 1, 1), (17, .iload_n 2, 1), (18, .bipush 53, 2), (20, .iadd, 1), (21, .aload_n 0, 1), (22, .getfield 109, 3), (25, .iastore, 1), (26, .aload_n 1, 1), (27, .iload_n 2, 1), (28, .bipush 54, 2), (30, .iadd, 1), (31, .aload_n 0, 1), (32, .getfield 112, 3), (35, .iastore, 1), (36, .iconst 0, 1), (37, .istore_n 3, 1), (38, .iload_n 3, 1), (39, .bipush 30, 2), (41, .if_icmp .ge 23, 3), (44, .aload_n 1, 1), (45, .iload_n 2, 1), (46, .bipush 55, 2), (48, .iadd, 1), (49, .iload_n 3, 1), (50, .iadd, 1), (51, .aload_n 0, 1), (52, .getfield 34, 3), (55, .iload_n 3, 1), (56, .iaload, 1), (57, .iastore, 1), (58, .iinc 3 1, 3), (61, .goto (-23), 3), (64, .iconst 0, 1), (65, .istore_n 3, 1), (66, .iload_n 3, 1), (67, .bipush 6, 2), (69, .if_icmp .ge 37, 3), (72, .aload_n 1, 1), (73, .iload_n 2, 1), (74, .bipush 85, 2), (76, .iadd, 1), (77, .iload_n 3, 1), (78, .iadd, 1), (79, .aload_n 0, 1), (80, .getfield 37, 3), (83, .iload_n 3, 1), (84, .iaload, 1), (85, .iastore, 1), (86, .aload_n 1, 1), (87, .iload_n 2, 1), (88, .bipush 91, 2), (90, .iadd, 1), (91, .iload_n 3, 1), (92, .iadd, 1), (93, .aload_n 0, 1), (94, .getfield 40, 3), (97, .iload_n 3, 1), (98, .iaload, 1), (99, .iastore, 1), (100, .iinc 3 1, 3), (103, .goto (-37), 3), (106, .iconst 0, 1), (107, .istore_n 3, 1), (108, .iload_n 3, 1), (109, .sipush 312, 3), (112, .if_icmp .ge 23, 3), (115, .aload_n 1, 1), (116, .iload_n 2, 1), (117, .bipush 97, 2), (119, .iadd, 1), (120, .iload_n 3, 1), (121, .iadd, 1), (122, .aload_n 0, 1), (123, .getfield 55, 3), (126, .iload_n 3, 1), (127, .iaload, 1), (128, .iastore, 1), (129, .iinc 3 1, 3), (132, .goto (-24), 3), (135, .return_, 1)])
def q_217 : pm_D := (⟨"StandUpBookModel", "takeAll", "([II)V"⟩, 12, prog_14_method_88_code, 4, (Option.none : Option FieldType), [(0, .aload_n 0, 1), (1, .aload_n 1, 1), (2, .iload_n 2, 1), (3, .invokevirtual 243, 3), (6, .aload_n 0, 1), (7, .aload_n 1, 1), (8, .iload_n 2, 1), (9, .bipush 52, 2), (11, .iadd, 1), (12, .iaload, 1), (13, .putfield 106, 3), (16, .aload_n 0, 1), (17, .aload_n 1, 1), (18, .iload_n 2, 1), (19, .bipush 53, 2), (21, .iadd, 1), (22, .iaload, 1), (23, .putfield 109, 3), (26, .aload_n 0, 1), (27, .aload_n 1, 1), (28, .iload_n 2, 1), (29, .bipush 54, 2), (31, .iadd, 1), (32, .iaload, 1), (33, .putfield 112, 3), (36, .iconst 0, 1), (37, .istore_n 3, 1), (38, .iload_n 3, 1), (39, .bipush 30, 2), (41, .if_icmp .ge 23, 3), (44, .aload_n 0, 1), (45, .getfield 34, 3), (48, .iload_n 3, 1), (49, .aload_n 1, 1), (50, .iload_n 2, 1), (51, .bipush 55, 2), (53, .iadd, 1), (54, .iload_n 3, 1), (55, .iadd, 1), (56, .iaload, 1), (57, .iastore, 1), (58, .iinc 3 1, 3), (61, .goto (-23), 3), (64, .iconst 0, 1), (65, .istore_n 3, 1), (66, .iload_n 3, 1), (67, .bipush 6, 2), (69, .if_icmp .ge 37, 3), (72, .aload_n 0, 1), (73, .getfield 37, 3), (76, .iload_n 3, 1), (77, .aload_n 1, 1), (78, .iload_n 2, 1), (79, .bipush 85, 2), (81, .iadd, 1), (82, .iload_n 3, 1), (83, .iadd, 1), (84, .iaload, 1), (85, .iastore, 1), (86, .aload_n 0, 1), (87, .getfield 40, 3), (90, .iload_n 3, 1), (91, .aload_n 1, 1), (92, .iload_n 2, 1), (93, .bipush 91, 2), (95, .iadd, 1), (96, .iload_n 3, 1), (97, .iadd, 1), (98, .iaload, 1), (99, .iastore, 1), (100, .iinc 3 1, 3), (103, .goto (-37), 3), (106, .iconst 0, 1), (107, .istore_n 3, 1), (108, .iload_n 3, 1), (109, .sipush 312, 3), (112, .if_icmp .ge 23, 3), (115, .aload_n 0, 1), (116, .getfield 55, 3), (119, .iload_n 3, 1), (120, .aload_n 1, 1), (121, .iload_n 2, 1), (122, .bipush 97, 2), (124, .iadd, 1), (125, .iload_n 3, 1), (126, .iadd, 1), (127, .iaload, 1), (128, .iastore, 1), (129, .iinc 3 1, 3), (132, .goto (-24), 3), (135, .return_, 1)])
def q_218 : pm_D := (⟨"StandUpBookModel", "image", "(I)I"⟩, 12, prog_14_method_89_code, 2, (Option.some FieldType.int), [(0, .iload_n 1, 1), (1, .iconst 0, 1), (2, .iconst 1, 1), (3, .invokestatic 115, 3), (6, .ifCond .ne 8, 3), (9, .aload_n 0, 1), (10, .invokevirtual 119, 3), (13, .ireturn, 1), (14, .aload_n 0, 1), (15, .getfield 89, 3), (18, .iload_n 1, 1), (19, .iconst 1, 1), (20, .iastore, 1), (21, .aload_n 0, 1), (22, .aload_n 0, 1), (23, .getfield 86, 3), (26, .sipush 420, 3), (29, .iload_n 1, 1), (30, .imul, 1), (31, .invokevirtual 189, 3), (34, .iconst 1, 1), (35, .ireturn, 1)])
def q_219 : pm_D := (⟨"StandUpBookModel", "from", "(I)I"⟩, 12, prog_14_method_90_code, 2, (Option.some FieldType.int), [(0, .iload_n 1, 1), (1, .iconst 0, 1), (2, .iconst 1, 1), (3, .invokestatic 115, 3), (6, .ifCond .ne 8, 3), (9, .aload_n 0, 1), (10, .invokevirtual 119, 3), (13, .ireturn, 1), (14, .aload_n 0, 1), (15, .getfield 89, 3), (18, .iload_n 1, 1), (19, .iaload, 1), (20, .ifCond .ne 8, 3), (23, .aload_n 0, 1), (24, .invokevirtual 231, 3), (27, .ireturn, 1), (28, .aload_n 0, 1), (29, .aload_n 0, 1), (30, .getfield 86, 3), (33, .sipush 420, 3), (36, .iload_n 1, 1), (37, .imul, 1), (38, .invokevirtual 196, 3), (41, .iconst 1, 1), (42, .ireturn, 1)])
def q_220 : pm_D := (⟨"StandUpBookModel", "status", "(I)I"⟩, 12, prog_14_method_91_code, 2, (Option.some FieldType.int), [(0, .iload_n 1, 1), (1, .iconst 0, 1), (2, .iconst 2, 1), (3, .invokestatic 115, 3), (6, .ifCond .ne 15, 3), (9, .aload_n 0, 1), (10, .getfield 1, 3), (13, .iconst 0, 1), (14, .dup2, 1), (15, .iaload, 1), (16, .iconst 1, 1), (17, .iadd, 1), (18, .iastore, 1), (19, .iconst (-1), 1), (20, .ireturn, 1), (21, .aload_n 0, 1), (22, .getfield 1, 3), (25, .iload_n 1, 1), (26, .iaload, 1), (27, .ireturn, 1)])
def q_221 : pm_D := (⟨"StandUpBookModel", "wearAll", "()I"⟩, 12, prog_14_method_92_code, 3, (Option.some FieldType.int), [(0, .iconst 0, 1), (1, .istore_n 1, 1), (2, .iconst 0, 1), (3, .istore_n 2, 1), (4, .iload_n 2, 1), (5, .aload_n 0, 1), (6, .getfield 96, 3), (9, .if_icmp .ge 18, 3), (12, .iload_n 1, 1), (13, .aload_n 0, 1), (14, .getfield 31, 3), (17, .iload_n 2, 1), (18, .iaload, 1), (19, .iadd, 1), (20, .istore_n 1, 1), (21, .iinc 2 1, 3), (24, .goto (-20), 3), (27, .iload_n 1, 1), (28, .ireturn, 1)])
def q_222 : pm_D := (⟨"StandUpBookModel", "stuckMany", "()I"⟩, 12, prog_14_method_93_code, 3, (Option.some FieldType.int), [(0, .iconst 0, 1), (1, .istore_n 1, 1), (2, .iconst 0, 1), (3, .istore_n 2, 1), (4, .iload_n 2, 1), (5, .aload_n 0, 1), (6, .getfield 96, 3), (9, .if_icmp .ge 25, 3), (12, .iload_n 1, 1), (13, .aload_n 0, 1), (14, .iload_n 2, 1), (15, .invokevirtual 202, 3), (18, .ifCond .eq 7, 3), (21, .iconst 1, 1), (22, .goto 4, 3), (25, .iconst 0, 1), (26, .iadd, 1), (27, .istore_n 1, 1), (28, .iinc 2 1, 3), (31, .goto (-27), 3), (34, .iload_n 1, 1), (35, .ireturn, 1)])
def q_223 : pm_D := (⟨"StandUpBookModel", "countOf", "(I)I"⟩, 12, prog_14_method_94_code, 2, (Option.some FieldType.int), [(0, .iload_n 1, 1), (1, .tableswitch 103 0 8 #[51, 56, 61, 66, 78, 83, 88, 93, 98], 51), (52, .aload_n 0, 1), (53, .getfield 96, 3), (56, .ireturn, 1), (57, .aload_n 0, 1), (58, .getfield 100, 3), (61, .ireturn, 1), (62, .aload_n 0, 1), (63, .getfield 103, 3), (66, .ireturn, 1), (67, .aload_n 0, 1), (68, .aload_n 0, 1), (69, .getfield 100, 3), (72, .invokevirtual 237, 3), (75, .invokestatic 249, 3), (78, .ireturn, 1), (79, .aload_n 0, 1), (80, .invokevirtual 329, 3), (83, .ireturn, 1), (84, .aload_n 0, 1), (85, .invokevirtual 332, 3), (88, .ireturn, 1), (89, .aload_n 0, 1), (90, .getfield 106, 3), (93, .ireturn, 1), (94, .aload_n 0, 1), (95, .getfield 109, 3), (98, .ireturn, 1), (99, .aload_n 0, 1), (100, .getfield 112, 3), (103, .ireturn, 1), (104, .aload_n 0, 1), (105, .getfield 130, 3), (108, .ireturn, 1)])
def q_224 : pm_D := (⟨"StandUpBookModel", "count", "(I)I"⟩, 12, prog_14_method_95_code, 2, (Option.some FieldType.int), [(0, .iload_n 1, 1), (1, .iconst 0, 1), (2, .bipush 9, 2), (4, .invokestatic 115, 3), (7, .ifCond .eq 11, 3), (10, .aload_n 0, 1), (11, .iload_n 1, 1), (12, .invokevirtual 335, 3), (15, .goto 7, 3), (18, .aload_n 0, 1), (19, .invokevirtual 119, 3), (22, .ireturn, 1)])
def q_225 : pm_D := (⟨"StandUpBookModel", "mix", "(J)V"⟩, 12, prog_14_method_96_code, 3, (Option.none : Option FieldType), [(0, .aload_n 0, 1), (1, .ldc2_w 338, 3), (4, .aload_n 0, 1), (5, .getfield 340, 3), (8, .lmul, 1), (9, .lload_n 1, 1), (10, .ladd, 1), (11, .putfield 340, 3), (14, .return_, 1)])
def q_226 : pm_D := (⟨"StandUpBookModel", "digest", "()J"⟩, 12, prog_14_method_97_code, 2, (Option.some FieldType.long), [(0, .aload_n 0, 1), (1, .ldc2_w 343, 3), (4, .putfield 340, 3), (7, .iconst 0, 1), (8, .istore_n 1, 1), (9, .iload_n 1, 1), (10, .bipush 9, 2), (12, .if_icmp .gt 19, 3), (15, .aload_n 0, 1), (16, .aload_n 0, 1), (17, .iload_n 1, 1), (18, .invokevirtual 335, 3), (21, .i2l, 1), (22, .invokevirtual 345, 3), (25, .iinc 1 1, 3), (28, .goto (-19), 3), (31, .iconst 0, 1), (32, .istore_n 1, 1), (33, .iload_n 1, 1), (34, .aload_n 0, 1), (35, .getfield 96, 3), (38, .if_icmp .ge 86, 3), (41, .aload_n 0, 1), (42, .aload_n 0, 1), (43, .getfield 13, 3), (46, .iload_n 1, 1), (47, .iaload, 1), (48, .i2l, 1), (49, .invokevirtual 345, 3), (52, .aload_n 0, 1), (53, .aload_n 0, 1), (54, .getfield 16, 3), (57, .iload_n 1, 1), (58, .iaload, 1), (59, .i2l, 1), (60, .invokevirtual 345, 3), (63, .aload_n 0, 1), (64, .aload_n 0, 1), (65, .getfield 19, 3), (68, .iload_n 1, 1), (69, .iaload, 1), (70, .i2l, 1), (71, .invokevirtual 345, 3), (74, .aload_n 0, 1), (75, .aload_n 0, 1), (76, .getfield 22, 3), (79, .iload_n 1, 1), (80, .iaload, 1), (81, .i2l, 1), (82, .invokevirtual 345, 3), (85, .aload_n 0, 1), (86, .aload_n 0, 1), (87, .getfield 25, 3), (90, .iload_n 1, 1), (91, .iaload, 1), (92, .i2l, 1), (93, .invokevirtual 345, 3), (96, .aload_n 0, 1), (97, .aload_n 0, 1), (98, .getfield 28, 3), (101, .iload_n 1, 1), (102, .iaload, 1), (103, .i2l, 1), (104, .invokevirtual 345, 3), (107, .aload_n 0, 1), (108, .aload_n 0, 1), (109, .getfield 31, 3), (112, .iload_n 1, 1), (113, .iaload, 1), (114, .i2l, 1), (115, .invokevirtual 345, 3), (118, .iinc 1 1, 3), (121, .goto (-88), 3), (124, .iconst 0, 1), (125, .istore_n 1, 1), (126, .iload_n 1, 1), (127, .iconst 5, 1), (128, .aload_n 0, 1), (129, .getfield 106, 3), (132, .imul, 1), (133, .if_icmp .ge 20, 3), (136, .aload_n 0, 1), (137, .aload_n 0, 1), (138, .getfield 34, 3), (141, .iload_n 1, 1), (142, .iaload, 1), (143, .i2l, 1), (144, .invokevirtual 345, 3), (147, .iinc 1 1, 3), (150, .goto (-24), 3), (153, .iconst 0, 1), (154, .istore_n 1, 1), (155, .iload_n 1, 1), (156, .aload_n 0, 1), (157, .getfield 109, 3), (160, .if_icmp .ge 31, 3), (163, .aload_n 0, 1), (164, .aload_n 0, 1), (165, .getfield 37, 3), (168, .iload_n 1, 1), (169, .iaload, 1), (170, .i2l, 1), (171, .invokevirtual 345, 3), (174, .aload_n 0, 1), (175, .aload_n 0, 1), (176, .getfield 40, 3), (179, .iload_n 1, 1), (180, .iaload, 1), (181, .i2l, 1), (182, .invokevirtual 345, 3), (185, .iinc 1 1, 3), (188, .goto (-33), 3), (191, .aload_n 0, 1), (192, .aload_n 0, 1), (193, .getfield 309, 3), (196, .invokevirtual 345, 3), (199, .aload_n 0, 1), (200, .aload_n 0, 1), (201, .getfield 82, 3), (204, .invokevirtual 345, 3), (207, .aload_n 0, 1), (208, .getfield 340, 3), (211, .lreturn, 1)])
def q_227 : pm_D := (⟨"java/lang/Integer", "bitCount", "(I)I"⟩, 14, prog_15_method_49_code, 1, (Option.some FieldType.int), [(0, .iload_n 0, 1), (1, .iload_n 0, 1), (2, .iconst 1, 1), (3, .iushr, 1), (4, .ldc_w 265, 3), (7, .iand, 1), (8, .isub, 1), (9, .istore_n 0, 1), (10, .iload_n 0, 1), (11, .ldc_w 266, 3), (14, .iand, 1), (15, .iload_n 0, 1), (16, .iconst 2, 1), (17, .iushr, 1), (18, .ldc_w 266, 3), (21, .iand, 1), (22, .iadd, 1), (23, .istore_n 0, 1), (24, .iload_n 0, 1), (25, .iload_n 0, 1), (26, .iconst 4, 1), (27, .iushr, 1), (28, .iadd, 1), (29, .ldc_w 267, 3), (32, .iand, 1), (33, .istore_n 0, 1), (34, .iload_n 0, 1), (35, .iload_n 0, 1), (36, .bipush 8, 2), (38, .iushr, 1), (39, .iadd, 1), (40, .istore_n 0, 1), (41, .iload_n 0, 1), (42, .iload_n 0, 1), (43, .bipush 16, 2), (45, .iushr, 1), (46, .iadd, 1), (47, .istore_n 0, 1), (48, .iload_n 0, 1), (49, .bipush 63, 2), (51, .iand, 1), (52, .ireturn, 1)])
def q_228 : pm_D := (⟨"java/lang/Math", "abs", "(I)I"⟩, 15, prog_16_method_59_code, 1, (Option.some FieldType.int), [(0, .iload_n 0, 1), (1, .ifCond .ge 8, 3), (4, .iload_n 0, 1), (5, .ineg, 1), (6, .goto 4, 3), (9, .iload_n 0, 1), (10, .ireturn, 1)])
def q_229 : pm_D := (⟨"java/lang/Math", "max", "(II)I"⟩, 15, prog_16_method_65_code, 2, (Option.some FieldType.int), [(0, .iload_n 0, 1), (1, .iload_n 1, 1), (2, .if_icmp .lt 7, 3), (5, .iload_n 0, 1), (6, .goto 4, 3), (9, .iload_n 1, 1), (10, .ireturn, 1)])
def q_230 : pm_D := (⟨"java/lang/Math", "min", "(II)I"⟩, 15, prog_16_method_69_code, 2, (Option.some FieldType.int), [(0, .iload_n 0, 1), (1, .iload_n 1, 1), (2, .if_icmp .gt 7, 3), (5, .iload_n 0, 1), (6, .goto 4, 3), (9, .iload_n 1, 1), (10, .ireturn, 1)])
def q_law : pm_D := (⟨"StandUpBookLaw", "law", "([I)Z"⟩, 13, code, 4, some .boolean, [(0, .new 7, 3), (3, .dup, 1), (4, .invokespecial 9, 3), (7, .astore_n 1, 1), (8, .new 10, 3), (11, .dup, 1), (12, .invokespecial 12, 3), (15, .astore_n 2, 1), (16, .iconst 0, 1), (17, .istore_n 3, 1), (18, .iload_n 3, 1), (19, .aload_n 0, 1), (20, .arraylength, 1), (21, .bipush 6, 2), (23, .isub, 1), (24, .if_icmp .gt 1137, 3), (27, .aload_n 0, 1), (28, .iload_n 3, 1), (29, .iaload, 1), (30, .bipush 63, 2), (32, .iand, 1), (33, .tableswitch 1122 0 34 #[155, 178, 241, 264, 277, 290, 313, 346, 369, 382, 415, 458, 491, 514, 537, 560, 583, 616, 659, 672, 705, 768, 801, 824, 847, 870, 903, 926, 959, 992, 1016, 1039, 1062, 1085, 1108], 155), (188, .aload_n 1, 1), (189, .aload_n 0, 1), (190, .iload_n 3, 1), (191, .iconst 1, 1), (192, .iadd, 1), (193, .iaload, 1), (194, .invokevirtual 13, 3), (197, .aload_n 2, 1), (198, .aload_n 0, 1), (199, .iload_n 3, 1), (200, .iconst 1, 1), (201, .iadd, 1), (202, .iaload, 1), (203, .invokevirtual 17, 3), (206, .if_icmp .eq 949, 3), (209, .iconst 0, 1), (210, .ireturn, 1), (211, .aload_n 1, 1), (212, .aload_n 0, 1), (213, .iload_n 3, 1), (214, .iconst 1, 1), (215, .iadd, 1), (216, .iaload, 1), (217, .aload_n 0, 1), (218, .iload_n 3, 1), (219, .iconst 2, 1), (220, .iadd, 1), (221, .iaload, 1), (222, .aload_n 0, 1), (223, .iload_n 3, 1), (224, .iconst 3, 1), (225, .iadd, 1), (226, .iaload, 1), (227, .aload_n 0, 1), (228, .iload_n 3, 1), (229, .iconst 4, 1), (230, .iadd, 1), (231, .iaload, 1), (232, .aload_n 0, 1), (233, .iload_n 3, 1), (234, .iconst 5, 1), (235, .iadd, 1), (236, .iaload, 1), (237, .invokevirtual 18, 3), (240, .aload_n 2, 1), (241, .aload_n 0, 1), (242, .iload_n 3, 1), (243, .iconst 1, 1), (244, .iadd, 1), (245, .iaload, 1), (246, .aload_n 0, 1), (247, .iload_n 3, 1), (248, .iconst 2, 1), (249, .iadd, 1), (250, .iaload, 1), (251, .aload_n 0, 1), (252, .iload_n 3, 1), (253, .iconst 3, 1), (254, .iadd, 1), (255, .iaload, 1), (256, .aload_n 0, 1), (257, .iload_n 3, 1), (258, .iconst 4, 1), (259, .iadd, 1), (260, .iaload, 1), (261, .aload_n 0, 1), (262, .iload_n 3, 1), (263, .iconst 5, 1), (264, .iadd, 1), (265, .iaload, 1), (266, .invokevirtual 22, 3), (269, .if_icmp .eq 886, 3), (272, .iconst 0, 1), (273, .ireturn, 1), (274, .aload_n 1, 1), (275, .aload_n 0, 1), (276, .iload_n 3, 1), (277, .iconst 1, 1), (278, .iadd, 1), (279, .iaload, 1), (280, .invokevirtual 23, 3), (283, .aload_n 2, 1), (284, .aload_n 0, 1), (285, .iload_n 3, 1), (286, .iconst 1, 1), (287, .iadd, 1), (288, .iaload, 1), (289, .invokevirtual 26, 3), (292, .if_icmp .eq 863, 3), (295, .iconst 0, 1), (296, .ireturn, 1), (297, .aload_n 1, 1), (298, .invokevirtual 27, 3), (301, .aload_n 2, 1), (302, .invokevirtual 31, 3), (305, .if_icmp .eq 850, 3), (308, .iconst 0, 1), (309, .ireturn, 1), (310, .aload_n 1, 1), (311, .invokevirtual 32, 3), (314, .aload_n 2, 1), (315, .invokevirtual 35, 3), (318, .if_icmp .eq 837, 3), (321, .iconst 0, 1), (322, .ireturn, 1), (323, .aload_n 1, 1), (324, .aload_n 0, 1), (325, .iload_n 3, 1), (326, .iconst 1, 1), (327, .iadd, 1), (328, .iaload, 1), (329, .invokevirtual 36, 3), (332, .aload_n 2, 1), (333, .aload_n 0, 1), (334, .iload_n 3, 1), (335, .iconst 1, 1), (336, .iadd, 1), (337, .iaload, 1), (338, .invokevirtual 39, 3), (341, .if_icmp .eq 814, 3), (344, .iconst 0, 1), (345, .ireturn, 1), (346, .aload_n 1, 1), (347, .aload_n 0, 1), (348, .iload_n 3, 1), (349, .iconst 1, 1), (350, .iadd, 1), (351, .iaload, 1), (352, .aload_n 0, 1), (353, .iload_n 3, 1), (354, .iconst 2, 1), (355, .iadd, 1), (356, .iaload, 1), (357, .invokevirtual 40, 3), (360, .aload_n 2, 1), (361, .aload_n 0, 1), (362, .iload_n 3, 1), (363, .iconst 1, 1), (364, .iadd, 1), (365, .iaload, 1), (366, .aload_n 0, 1), (367, .iload_n 3, 1), (368, .iconst 2, 1), (369, .iadd, 1), (370, .iaload, 1), (371, .invokevirtual 44, 3), (374, .if_icmp .eq 781, 3), (377, .iconst 0, 1), (378, .ireturn, 1), (379, .aload_n 1, 1), (380, .aload_n 0, 1), (381, .iload_n 3, 1), (382, .iconst 1, 1), (383, .iadd, 1), (384, .iaload, 1), (385, .invokevirtual 45, 3), (388, .aload_n 2, 1), (389, .aload_n 0, 1), (390, .iload_n 3, 1), (391, .iconst 1, 1), (392, .iadd, 1), (393, .iaload, 1), (394, .invokevirtual 48, 3), (397, .if_icmp .eq 758, 3), (400, .iconst 0, 1), (401, .ireturn, 1), (402, .aload_n 1, 1), (403, .invokevirtual 49, 3), (406, .aload_n 2, 1), (407, .invokevirtual 52, 3), (410, .if_icmp .eq 745, 3), (413, .iconst 0, 1), (414, .ireturn, 1), (415, .aload_n 1, 1), (416, .aload_n 0, 1), (417, .iload_n 3, 1), (418, .iconst 1, 1), (419, .iadd, 1), (420, .iaload, 1), (421, .aload_n 0, 1), (422, .iload_n 3, 1), (423, .iconst 2, 1), (424, .iadd, 1), (425, .iaload, 1), (426, .invokevirtual 53, 3), (429, .aload_n 2, 1), (430, .aload_n 0, 1), (431, .iload_n 3, 1), (432, .iconst 1, 1), (433, .iadd, 1), (434, .iaload, 1), (435, .aload_n 0, 1), (436, .iload_n 3, 1), (437, .iconst 2, 1), (438, .iadd, 1), (439, .iaload, 1), (440, .invokevirtual 56, 3), (443, .if_icmp .eq 712, 3), (446, .iconst 0, 1), (447, .ireturn, 1), (448, .aload_n 1, 1), (449, .aload_n 0, 1), (450, .iload_n 3, 1), (451, .iconst 1, 1), (452, .iadd, 1), (453, .iaload, 1), (454, .aload_n 0, 1), (455, .iload_n 3, 1), (456, .iconst 2, 1), (457, .iadd, 1), (458, .iaload, 1), (459, .aload_n 0, 1), (460, .iload_n 3, 1), (461, .iconst 3, 1), (462, .iadd, 1), (463, .iaload, 1), (464, .invokevirtual 57, 3), (467, .aload_n 2, 1), (468, .aload_n 0, 1), (469, .iload_n 3, 1), (470, .iconst 1, 1), (471, .iadd, 1), (472, .iaload, 1), (473, .aload_n 0, 1), (474, .iload_n 3, 1), (475, .iconst 2, 1), (476, .iadd, 1), (477, .iaload, 1), (478, .aload_n 0, 1), (479, .iload_n 3, 1), (480, .iconst 3, 1), (481, .iadd, 1), (482, .iaload, 1), (483, .invokevirtual 61, 3), (486, .if_icmp .eq 669, 3), (489, .iconst 0, 1), (490, .ireturn, 1), (491, .aload_n 1, 1), (492, .aload_n 0, 1), (493, .iload_n 3, 1), (494, .iconst 1, 1), (495, .iadd, 1), (496, .iaload, 1), (497, .aload_n 0, 1), (498, .iload_n 3, 1), (499, .iconst 2, 1), (500, .iadd, 1), (501, .iaload, 1), (502, .invokevirtual 62, 3), (505, .aload_n 2, 1), (506, .aload_n 0, 1), (507, .iload_n 3, 1), (508, .iconst 1, 1), (509, .iadd, 1), (510, .iaload, 1), (511, .aload_n 0, 1), (512, .iload_n 3, 1), (513, .iconst 2, 1), (514, .iadd, 1), (515, .iaload, 1), (516, .invokevirtual 65, 3), (519, .if_icmp .eq 636, 3), (522, .iconst 0, 1), (523, .ireturn, 1), (524, .aload_n 1, 1), (525, .aload_n 0, 1), (526, .iload_n 3, 1), (527, .iconst 1, 1), (528, .iadd, 1), (529, .iaload, 1), (530, .invokevirtual 66, 3), (533, .aload_n 2, 1), (534, .aload_n 0, 1), (535, .iload_n 3, 1), (536, .iconst 1, 1), (537, .iadd, 1), (538, .iaload, 1), (539, .invokevirtual 69, 3), (542, .if_icmp .eq 613, 3), (545, .iconst 0, 1), (546, .ireturn, 1), (547, .aload_n 1, 1), (548, .aload_n 0, 1), (549, .iload_n 3, 1), (550, .iconst 1, 1), (551, .iadd, 1), (552, .iaload, 1), (553, .invokevirtual 70, 3), (556, .aload_n 2, 1), (557, .aload_n 0, 1), (558, .iload_n 3, 1), (559, .iconst 1, 1), (560, .iadd, 1), (561, .iaload, 1), (562, .invokevirtual 73, 3), (565, .if_icmp .eq 590, 3), (568, .iconst 0, 1), (569, .ireturn, 1), (570, .aload_n 1, 1), (571, .aload_n 0, 1), (572, .iload_n 3, 1), (573, .iconst 1, 1), (574, .iadd, 1), (575, .iaload, 1), (576, .invokevirtual 74, 3), (579, .aload_n 2, 1), (580, .aload_n 0, 1), (581, .iload_n 3, 1), (582, .iconst 1, 1), (583, .iadd, 1), (584, .iaload, 1), (585, .invokevirtual 77, 3), (588, .if_icmp .eq 567, 3), (591, .iconst 0, 1), (592, .ireturn, 1), (593, .aload_n 1, 1), (594, .aload_n 0, 1), (595, .iload_n 3, 1), (596, .iconst 1, 1), (597, .iadd, 1), (598, .iaload, 1), (599, .invokevirtual 78, 3), (602, .aload_n 2, 1), (603, .aload_n 0, 1), (604, .iload_n 3, 1), (605, .iconst 1, 1), (606, .iadd, 1), (607, .iaload, 1), (608, .invokevirtual 81, 3), (611, .if_icmp .eq 544, 3), (614, .iconst 0, 1), (615, .ireturn, 1), (616, .aload_n 1, 1), (617, .aload_n 0, 1), (618, .iload_n 3, 1), (619, .iconst 1, 1), (620, .iadd, 1), (621, .iaload, 1), (622, .aload_n 0, 1), (623, .iload_n 3, 1), (624, .iconst 2, 1), (625, .iadd, 1), (626, .iaload, 1), (627, .invokevirtual 82, 3), (630, .aload_n 2, 1), (631, .aload_n 0, 1), (632, .iload_n 3, 1), (633, .iconst 1, 1), (634, .iadd, 1), (635, .iaload, 1), (636, .aload_n 0, 1), (637, .iload_n 3, 1), (638, .iconst 2, 1), (639, .iadd, 1), (640, .iaload, 1), (641, .invokevirtual 85, 3), (644, .if_icmp .eq 511, 3), (647, .iconst 0, 1), (648, .ireturn, 1), (649, .aload_n 1, 1), (650, .aload_n 0, 1), (651, .iload_n 3, 1), (652, .iconst 1, 1), (653, .iadd, 1), (654, .iaload, 1), (655, .aload_n 0, 1), (656, .iload_n 3, 1), (657, .iconst 2, 1), (658, .iadd, 1), (659, .iaload, 1), (660, .aload_n 0, 1), (661, .iload_n 3, 1), (662, .iconst 3, 1), (663, .iadd, 1), (664, .iaload, 1), (665, .invokevirtual 86, 3), (668, .aload_n 2, 1), (669, .aload_n 0, 1), (670, .iload_n 3, 1), (671, .iconst 1, 1), (672, .iadd, 1), (673, .iaload, 1), (674, .aload_n 0, 1), (675, .iload_n 3, 1), (676, .iconst 2, 1), (677, .iadd, 1), (678, .iaload, 1), (679, .aload_n 0, 1), (680, .iload_n 3, 1), (681, .iconst 3, 1), (682, .iadd, 1), (683, .iaload, 1), (684, .invokevirtual 89, 3), (687, .if_icmp .eq 468, 3), (690, .iconst 0, 1), (691, .ireturn, 1), (692, .aload_n 1, 1), (693, .invokevirtual 90, 3), (696, .aload_n 2, 1), (697, .invokevirtual 93, 3), (700, .if_icmp .eq 455, 3), (703, .iconst 0, 1), (704, .ireturn, 1), (705, .aload_n 1, 1), (706, .aload_n 0, 1), (707, .iload_n 3, 1), (708, .iconst 1, 1), (709, .iadd, 1), (710, .iaload, 1), (711, .aload_n 0, 1), (712, .iload_n 3, 1), (713, .iconst 2, 1), (714, .iadd, 1), (715, .iaload, 1), (716, .invokevirtual 94, 3), (719, .aload_n 2, 1), (720, .aload_n 0, 1), (721, .iload_n 3, 1), (722, .iconst 1, 1), (723, .iadd, 1), (724, .iaload, 1), (725, .aload_n 0, 1), (726, .iload_n 3, 1), (727, .iconst 2, 1), (728, .iadd, 1), (729, .iaload, 1), (730, .invokevirtual 97, 3), (733, .if_icmp .eq 422, 3), (736, .iconst 0, 1), (737, .ireturn, 1), (738, .aload_n 1, 1), (739, .aload_n 0, 1), (740, .iload_n 3, 1), (741, .iconst 1, 1), (742, .iadd, 1), (743, .iaload, 1), (744, .aload_n 0, 1), (745, .iload_n 3, 1), (746, .iconst 2, 1), (747, .iadd, 1), (748, .iaload, 1), (749, .aload_n 0, 1), (750, .iload_n 3, 1), (751, .iconst 3, 1), (752, .iadd, 1), (753, .iaload, 1), (754, .aload_n 0, 1), (755, .iload_n 3, 1), (756, .iconst 4, 1), (757, .iadd, 1), (758, .iaload, 1), (759, .aload_n 0, 1), (760, .iload_n 3, 1), (761, .iconst 5, 1), (762, .iadd, 1), (763, .iaload, 1), (764, .invokevirtual 98, 3), (767, .aload_n 2, 1), (768, .aload_n 0, 1), (769, .iload_n 3, 1), (770, .iconst 1, 1), (771, .iadd, 1), (772, .iaload, 1), (773, .aload_n 0, 1), (774, .iload_n 3, 1), (775, .iconst 2, 1), (776, .iadd, 1), (777, .iaload, 1), (778, .aload_n 0, 1), (779, .iload_n 3, 1), (780, .iconst 3, 1), (781, .iadd, 1), (782, .iaload, 1), (783, .aload_n 0, 1), (784, .iload_n 3, 1), (785, .iconst 4, 1), (786, .iadd, 1), (787, .iaload, 1), (788, .aload_n 0, 1), (789, .iload_n 3, 1), (790, .iconst 5, 1), (791, .iadd, 1), (792, .iaload, 1), (793, .invokevirtual 101, 3), (796, .if_icmp .eq 359, 3), (799, .iconst 0, 1), (800, .ireturn, 1), (801, .aload_n 1, 1), (802, .aload_n 0, 1), (803, .iload_n 3, 1), (804, .iconst 1, 1), (805, .iadd, 1), (806, .iaload, 1), (807, .aload_n 0, 1), (808, .iload_n 3, 1), (809, .iconst 2, 1), (810, .iadd, 1), (811, .iaload, 1), (812, .invokevirtual 102, 3), (815, .aload_n 2, 1), (816, .aload_n 0, 1), (817, .iload_n 3, 1), (818, .iconst 1, 1), (819, .iadd, 1), (820, .iaload, 1), (821, .aload_n 0, 1), (822, .iload_n 3, 1), (823, .iconst 2, 1), (824, .iadd, 1), (825, .iaload, 1), (826, .invokevirtual 105, 3), (829, .if_icmp .eq 326, 3), (832, .iconst 0, 1), (833, .ireturn, 1), (834, .aload_n 1, 1), (835, .aload_n 0, 1), (836, .iload_n 3, 1), (837, .iconst 1, 1), (838, .iadd, 1), (839, .iaload, 1), (840, .invokevirtual 106, 3), (843, .aload_n 2, 1), (844, .aload_n 0, 1), (845, .iload_n 3, 1), (846, .iconst 1, 1), (847, .iadd, 1), (848, .iaload, 1), (849, .invokevirtual 109, 3), (852, .if_icmp .eq 303, 3), (855, .iconst 0, 1), (856, .ireturn, 1), (857, .aload_n 1, 1), (858, .aload_n 0, 1), (859, .iload_n 3, 1), (860, .iconst 1, 1), (861, .iadd, 1), (862, .iaload, 1), (863, .invokevirtual 110, 3), (866, .aload_n 2, 1), (867, .aload_n 0, 1), (868, .iload_n 3, 1), (869, .iconst 1, 1), (870, .iadd, 1), (871, .iaload, 1), (872, .invokevirtual 113, 3), (875, .if_icmp .eq 280, 3), (878, .iconst 0, 1), (879, .ireturn, 1), (880, .aload_n 1, 1), (881, .aload_n 0, 1), (882, .iload_n 3, 1), (883, .iconst 1, 1), (884, .iadd, 1), (885, .iaload, 1), (886, .invokevirtual 114, 3), (889, .aload_n 2, 1), (890, .aload_n 0, 1), (891, .iload_n 3, 1), (892, .iconst 1, 1), (893, .iadd, 1), (894, .iaload, 1), (895, .invokevirtual 117, 3), (898, .if_icmp .eq 257, 3), (901, .iconst 0, 1), (902, .ireturn, 1), (903, .aload_n 1, 1), (904, .aload_n 0, 1), (905, .iload_n 3, 1), (906, .iconst 1, 1), (907, .iadd, 1), (908, .iaload, 1), (909, .aload_n 0, 1), (910, .iload_n 3, 1), (911, .iconst 2, 1), (912, .iadd, 1), (913, .iaload, 1), (914, .invokevirtual 118, 3), (917, .aload_n 2, 1), (918, .aload_n 0, 1), (919, .iload_n 3, 1), (920, .iconst 1, 1), (921, .iadd, 1), (922, .iaload, 1), (923, .aload_n 0, 1), (924, .iload_n 3, 1), (925, .iconst 2, 1), (926, .iadd, 1), (927, .iaload, 1), (928, .invokevirtual 121, 3), (931, .if_icmp .eq 224, 3), (934, .iconst 0, 1), (935, .ireturn, 1), (936, .aload_n 1, 1), (937, .aload_n 0, 1), (938, .iload_n 3, 1), (939, .iconst 1, 1), (940, .iadd, 1), (941, .iaload, 1), (942, .invokevirtual 122, 3), (945, .aload_n 2, 1), (946, .aload_n 0, 1), (947, .iload_n 3, 1), (948, .iconst 1, 1), (949, .iadd, 1), (950, .iaload, 1), (951, .invokevirtual 125, 3), (954, .if_icmp .eq 201, 3), (957, .iconst 0, 1), (958, .ireturn, 1), (959, .aload_n 1, 1), (960, .aload_n 0, 1), (961, .iload_n 3, 1), (962, .iconst 1, 1), (963, .iadd, 1), (964, .iaload, 1), (965, .aload_n 0, 1), (966, .iload_n 3, 1), (967, .iconst 2, 1), (968, .iadd, 1), (969, .iaload, 1), (970, .invokevirtual 126, 3), (973, .aload_n 2, 1), (974, .aload_n 0, 1), (975, .iload_n 3, 1), (976, .iconst 1, 1), (977, .iadd, 1), (978, .iaload, 1), (979, .aload_n 0, 1), (980, .iload_n 3, 1), (981, .iconst 2, 1), (982, .iadd, 1), (983, .iaload, 1), (984, .invokevirtual 129, 3), (987, .if_icmp .eq 168, 3), (990, .iconst 0, 1), (991, .ireturn, 1), (992, .aload_n 1, 1), (993, .aload_n 0, 1), (994, .iload_n 3, 1), (995, .iconst 1, 1), (996, .iadd, 1), (997, .iaload, 1), (998, .aload_n 0, 1), (999, .iload_n 3, 1), (1000, .iconst 2, 1), (1001, .iadd, 1), (1002, .iaload, 1), (1003, .invokevirtual 130, 3), (1006, .aload_n 2, 1), (1007, .aload_n 0, 1), (1008, .iload_n 3, 1), (1009, .iconst 1, 1), (1010, .iadd, 1), (1011, .iaload, 1), (1012, .aload_n 0, 1), (1013, .iload_n 3, 1), (1014, .iconst 2, 1), (1015, .iadd, 1), (1016, .iaload, 1), (1017, .invokevirtual 133, 3), (1020, .if_icmp .eq 135, 3), (1023, .iconst 0, 1), (1024, .ireturn, 1), (1025, .aload_n 1, 1), (1026, .aload_n 0, 1), (1027, .iload_n 3, 1), (1028, .iconst 1, 1), (1029, .iadd, 1), (1030, .iaload, 1), (1031, .invokevirtual 134, 3), (1034, .aload_n 2, 1), (1035, .aload_n 0, 1), (1036, .iload_n 3, 1), (1037, .iconst 1, 1), (1038, .iadd, 1), (1039, .iaload, 1), (1040, .invokevirtual 138, 3), (1043, .lcmp, 1), (1044, .ifCond .eq 111, 3), (1047, .iconst 0, 1), (1048, .ireturn, 1), (1049, .aload_n 1, 1), (1050, .aload_n 0, 1), (1051, .iload_n 3, 1), (1052, .iconst 1, 1), (1053, .iadd, 1), (1054, .iaload, 1), (1055, .invokevirtual 139, 3), (1058, .aload_n 2, 1), (1059, .aload_n 0, 1), (1060, .iload_n 3, 1), (1061, .iconst 1, 1), (1062, .iadd, 1), (1063, .iaload, 1), (1064, .invokevirtual 142, 3), (1067, .if_icmp .eq 88, 3), (1070, .iconst 0, 1), (1071, .ireturn, 1), (1072, .aload_n 1, 1), (1073, .aload_n 0, 1), (1074, .iload_n 3, 1), (1075, .iconst 1, 1), (1076, .iadd, 1), (1077, .iaload, 1), (1078, .invokevirtual 143, 3), (1081, .aload_n 2, 1), (1082, .aload_n 0, 1), (1083, .iload_n 3, 1), (1084, .iconst 1, 1), (1085, .iadd, 1), (1086, .iaload, 1), (1087, .invokevirtual 146, 3), (1090, .if_icmp .eq 65, 3), (1093, .iconst 0, 1), (1094, .ireturn, 1), (1095, .aload_n 1, 1), (1096, .aload_n 0, 1), (1097, .iload_n 3, 1), (1098, .iconst 1, 1), (1099, .iadd, 1), (1100, .iaload, 1), (1101, .invokevirtual 147, 3), (1104, .aload_n 2, 1), (1105, .aload_n 0, 1), (1106, .iload_n 3, 1), (1107, .iconst 1, 1), (1108, .iadd, 1), (1109, .iaload, 1), (1110, .invokevirtual 150, 3), (1113, .if_icmp .eq 42, 3), (1116, .iconst 0, 1), (1117, .ireturn, 1), (1118, .aload_n 1, 1), (1119, .aload_n 0, 1), (1120, .iload_n 3, 1), (1121, .iconst 1, 1), (1122, .iadd, 1), (1123, .iaload, 1), (1124, .invokevirtual 151, 3), (1127, .aload_n 2, 1), (1128, .aload_n 0, 1), (1129, .iload_n 3, 1), (1130, .iconst 1, 1), (1131, .iadd, 1), (1132, .iaload, 1), (1133, .invokevirtual 154, 3), (1136, .if_icmp .eq 19, 3), (1139, .iconst 0, 1), (1140, .ireturn, 1), (1141, .aload_n 1, 1), (1142, .invokevirtual 155, 3), (1145, .aload_n 2, 1), (1146, .invokevirtual 159, 3), (1149, .lcmp, 1), (1150, .ifCond .eq 5, 3), (1153, .iconst 0, 1), (1154, .ireturn, 1), (1155, .iinc 3 6, 3), (1158, .goto (-1140), 3), (1161, .iconst 1, 1), (1162, .ireturn, 1)])
def pm_all : List pm_D := [q_0, q_1, q_2, q_3, q_4, q_5, q_6, q_7, q_8, q_9, q_10, q_11, q_12, q_13, q_14, q_15, q_16, q_17, q_18, q_19, q_20, q_21, q_22, q_23, q_24, q_25, q_26, q_27, q_28, q_29, q_30, q_31, q_32, q_33, q_34, q_35, q_36, q_37, q_38, q_39, q_40, q_41, q_42, q_43, q_44, q_45, q_46, q_47, q_48, q_49, q_50, q_51, q_52, q_53, q_54, q_55, q_56, q_57, q_58, q_59, q_60, q_61, q_62, q_63, q_64, q_65, q_66, q_67, q_68, q_69, q_70, q_71, q_72, q_73, q_74, q_75, q_76, q_77, q_78, q_79, q_80, q_81, q_82, q_83, q_84, q_85, q_86, q_87, q_88, q_89, q_90, q_91, q_92, q_93, q_94, q_95, q_96, q_97, q_98, q_99, q_100, q_101, q_102, q_103, q_104, q_105, q_106, q_107, q_108, q_109, q_110, q_111, q_112, q_113, q_114, q_115, q_116, q_117, q_118, q_119, q_120, q_121, q_122, q_123, q_124, q_125, q_126, q_127, q_128, q_129, q_130, q_131, q_132, q_133, q_134, q_135, q_136, q_137, q_138, q_139, q_140, q_141, q_142, q_143, q_144, q_145, q_146, q_147, q_148, q_149, q_150, q_151, q_152, q_153, q_154, q_155, q_156, q_157, q_158, q_159, q_160, q_161, q_162, q_163, q_164, q_165, q_166, q_167, q_168, q_169, q_170, q_171, q_172, q_173, q_174, q_175, q_176, q_177, q_178, q_179, q_180, q_181, q_182, q_183, q_184, q_185, q_186, q_187, q_188, q_189, q_190, q_191, q_192, q_193, q_194, q_195, q_196, q_197, q_198, q_199, q_200, q_201, q_202, q_203, q_204, q_205, q_206, q_207, q_208, q_209, q_210, q_211, q_212, q_213, q_214, q_215, q_216, q_217, q_218, q_219, q_220, q_221, q_222, q_223, q_224, q_225, q_226, q_227, q_228, q_229, q_230]
end
section
theorem qd_0 : ∀ x ∈ q_0.2.2.2.2.2, decode q_0.2.2.1 x.1 = .ok x.2 := by decide +kernel
theorem qd_1 : ∀ x ∈ q_1.2.2.2.2.2, decode q_1.2.2.1 x.1 = .ok x.2 := by decide +kernel
theorem qd_2 : ∀ x ∈ q_2.2.2.2.2.2, decode q_2.2.2.1 x.1 = .ok x.2 := by decide +kernel
theorem qd_3 : ∀ x ∈ q_3.2.2.2.2.2, decode q_3.2.2.1 x.1 = .ok x.2 := by decide +kernel
theorem qd_4 : ∀ x ∈ q_4.2.2.2.2.2, decode q_4.2.2.1 x.1 = .ok x.2 := by decide +kernel
theorem qd_5 : ∀ x ∈ q_5.2.2.2.2.2, decode q_5.2.2.1 x.1 = .ok x.2 := by decide +kernel
theorem qd_6 : ∀ x ∈ q_6.2.2.2.2.2, decode q_6.2.2.1 x.1 = .ok x.2 := by decide +kernel
theorem qd_7 : ∀ x ∈ q_7.2.2.2.2.2, decode q_7.2.2.1 x.1 = .ok x.2 := by decide +kernel
theorem qd_8 : ∀ x ∈ q_8.2.2.2.2.2, decode q_8.2.2.1 x.1 = .ok x.2 := by decide +kernel
theorem qd_9 : ∀ x ∈ q_9.2.2.2.2.2, decode q_9.2.2.1 x.1 = .ok x.2 := by decide +kernel
theorem qd_10 : ∀ x ∈ q_10.2.2.2.2.2, decode q_10.2.2.1 x.1 = .ok x.2 := by decide +kernel
theorem qd_11 : ∀ x ∈ q_11.2.2.2.2.2, decode q_11.2.2.1 x.1 = .ok x.2 := by decide +kernel
theorem qd_12 : ∀ x ∈ q_12.2.2.2.2.2, decode q_12.2.2.1 x.1 = .ok x.2 := by decide +kernel
theorem qd_13 : ∀ x ∈ q_13.2.2.2.2.2, decode q_13.2.2.1 x.1 = .ok x.2 := by decide +kernel
theorem qd_14 : ∀ x ∈ q_14.2.2.2.2.2, decode q_14.2.2.1 x.1 = .ok x.2 := by decide +kernel
theorem qd_15 : ∀ x ∈ q_15.2.2.2.2.2, decode q_15.2.2.1 x.1 = .ok x.2 := by decide +kernel
theorem qd_16 : ∀ x ∈ q_16.2.2.2.2.2, decode q_16.2.2.1 x.1 = .ok x.2 := by decide +kernel
theorem qd_17 : ∀ x ∈ q_17.2.2.2.2.2, decode q_17.2.2.1 x.1 = .ok x.2 := by decide +kernel
theorem qd_18 : ∀ x ∈ q_18.2.2.2.2.2, decode q_18.2.2.1 x.1 = .ok x.2 := by decide +kernel
theorem qd_19 : ∀ x ∈ q_19.2.2.2.2.2, decode q_19.2.2.1 x.1 = .ok x.2 := by decide +kernel
theorem qd_20 : ∀ x ∈ q_20.2.2.2.2.2, decode q_20.2.2.1 x.1 = .ok x.2 := by decide +kernel
theorem qd_21 : ∀ x ∈ q_21.2.2.2.2.2, decode q_21.2.2.1 x.1 = .ok x.2 := by decide +kernel
theorem qd_22 : ∀ x ∈ q_22.2.2.2.2.2, decode q_22.2.2.1 x.1 = .ok x.2 := by decide +kernel
theorem qd_23 : ∀ x ∈ q_23.2.2.2.2.2, decode q_23.2.2.1 x.1 = .ok x.2 := by decide +kernel
theorem qd_24 : ∀ x ∈ q_24.2.2.2.2.2, decode q_24.2.2.1 x.1 = .ok x.2 := by decide +kernel
theorem qd_25 : ∀ x ∈ q_25.2.2.2.2.2, decode q_25.2.2.1 x.1 = .ok x.2 := by decide +kernel
theorem qd_26 : ∀ x ∈ q_26.2.2.2.2.2, decode q_26.2.2.1 x.1 = .ok x.2 := by decide +kernel
theorem qd_27 : ∀ x ∈ q_27.2.2.2.2.2, decode q_27.2.2.1 x.1 = .ok x.2 := by decide +kernel
theorem qd_28 : ∀ x ∈ q_28.2.2.2.2.2, decode q_28.2.2.1 x.1 = .ok x.2 := by decide +kernel
theorem qd_29 : ∀ x ∈ q_29.2.2.2.2.2, decode q_29.2.2.1 x.1 = .ok x.2 := by decide +kernel
theorem qd_30 : ∀ x ∈ q_30.2.2.2.2.2, decode q_30.2.2.1 x.1 = .ok x.2 := by decide +kernel
theorem qd_31 : ∀ x ∈ q_31.2.2.2.2.2, decode q_31.2.2.1 x.1 = .ok x.2 := by decide +kernel
theorem qd_32 : ∀ x ∈ q_32.2.2.2.2.2, decode q_32.2.2.1 x.1 = .ok x.2 := by decide +kernel
theorem qd_33 : ∀ x ∈ q_33.2.2.2.2.2, decode q_33.2.2.1 x.1 = .ok x.2 := by decide +kernel
theorem qd_34 : ∀ x ∈ q_34.2.2.2.2.2, decode q_34.2.2.1 x.1 = .ok x.2 := by decide +kernel
theorem qd_35 : ∀ x ∈ q_35.2.2.2.2.2, decode q_35.2.2.1 x.1 = .ok x.2 := by decide +kernel
theorem qd_36 : ∀ x ∈ q_36.2.2.2.2.2, decode q_36.2.2.1 x.1 = .ok x.2 := by decide +kernel
theorem qd_37 : ∀ x ∈ q_37.2.2.2.2.2, decode q_37.2.2.1 x.1 = .ok x.2 := by decide +kernel
theorem qd_38 : ∀ x ∈ q_38.2.2.2.2.2, decode q_38.2.2.1 x.1 = .ok x.2 := by decide +kernel
theorem qd_39 : ∀ x ∈ q_39.2.2.2.2.2, decode q_39.2.2.1 x.1 = .ok x.2 := by decide +kernel
theorem qd_40 : ∀ x ∈ q_40.2.2.2.2.2, decode q_40.2.2.1 x.1 = .ok x.2 := by decide +kernel
theorem qd_41 : ∀ x ∈ q_41.2.2.2.2.2, decode q_41.2.2.1 x.1 = .ok x.2 := by decide +kernel
theorem qd_42 : ∀ x ∈ q_42.2.2.2.2.2, decode q_42.2.2.1 x.1 = .ok x.2 := by decide +kernel
theorem qd_43 : ∀ x ∈ q_43.2.2.2.2.2, decode q_43.2.2.1 x.1 = .ok x.2 := by decide +kernel
theorem qd_44 : ∀ x ∈ q_44.2.2.2.2.2, decode q_44.2.2.1 x.1 = .ok x.2 := by decide +kernel
theorem qd_45 : ∀ x ∈ q_45.2.2.2.2.2, decode q_45.2.2.1 x.1 = .ok x.2 := by decide +kernel
theorem qd_46 : ∀ x ∈ q_46.2.2.2.2.2, decode q_46.2.2.1 x.1 = .ok x.2 := by decide +kernel
theorem qd_47 : ∀ x ∈ q_47.2.2.2.2.2, decode q_47.2.2.1 x.1 = .ok x.2 := by decide +kernel
theorem qd_48 : ∀ x ∈ q_48.2.2.2.2.2, decode q_48.2.2.1 x.1 = .ok x.2 := by decide +kernel
theorem qd_49 : ∀ x ∈ q_49.2.2.2.2.2, decode q_49.2.2.1 x.1 = .ok x.2 := by decide +kernel
theorem qd_50 : ∀ x ∈ q_50.2.2.2.2.2, decode q_50.2.2.1 x.1 = .ok x.2 := by decide +kernel
theorem qd_51 : ∀ x ∈ q_51.2.2.2.2.2, decode q_51.2.2.1 x.1 = .ok x.2 := by decide +kernel
theorem qd_52 : ∀ x ∈ q_52.2.2.2.2.2, decode q_52.2.2.1 x.1 = .ok x.2 := by decide +kernel
theorem qd_53 : ∀ x ∈ q_53.2.2.2.2.2, decode q_53.2.2.1 x.1 = .ok x.2 := by decide +kernel
theorem qd_54 : ∀ x ∈ q_54.2.2.2.2.2, decode q_54.2.2.1 x.1 = .ok x.2 := by decide +kernel
theorem qd_55 : ∀ x ∈ q_55.2.2.2.2.2, decode q_55.2.2.1 x.1 = .ok x.2 := by decide +kernel
theorem qd_56 : ∀ x ∈ q_56.2.2.2.2.2, decode q_56.2.2.1 x.1 = .ok x.2 := by decide +kernel
theorem qd_57 : ∀ x ∈ q_57.2.2.2.2.2, decode q_57.2.2.1 x.1 = .ok x.2 := by decide +kernel
theorem qd_58 : ∀ x ∈ q_58.2.2.2.2.2, decode q_58.2.2.1 x.1 = .ok x.2 := by decide +kernel
theorem qd_59 : ∀ x ∈ q_59.2.2.2.2.2, decode q_59.2.2.1 x.1 = .ok x.2 := by decide +kernel
theorem qd_60 : ∀ x ∈ q_60.2.2.2.2.2, decode q_60.2.2.1 x.1 = .ok x.2 := by decide +kernel
theorem qd_61 : ∀ x ∈ q_61.2.2.2.2.2, decode q_61.2.2.1 x.1 = .ok x.2 := by decide +kernel
theorem qd_62 : ∀ x ∈ q_62.2.2.2.2.2, decode q_62.2.2.1 x.1 = .ok x.2 := by decide +kernel
theorem qd_63 : ∀ x ∈ q_63.2.2.2.2.2, decode q_63.2.2.1 x.1 = .ok x.2 := by decide +kernel
theorem qd_64 : ∀ x ∈ q_64.2.2.2.2.2, decode q_64.2.2.1 x.1 = .ok x.2 := by decide +kernel
theorem qd_65 : ∀ x ∈ q_65.2.2.2.2.2, decode q_65.2.2.1 x.1 = .ok x.2 := by decide +kernel
theorem qd_66 : ∀ x ∈ q_66.2.2.2.2.2, decode q_66.2.2.1 x.1 = .ok x.2 := by decide +kernel
theorem qd_67 : ∀ x ∈ q_67.2.2.2.2.2, decode q_67.2.2.1 x.1 = .ok x.2 := by decide +kernel
theorem qd_68 : ∀ x ∈ q_68.2.2.2.2.2, decode q_68.2.2.1 x.1 = .ok x.2 := by decide +kernel
theorem qd_69 : ∀ x ∈ q_69.2.2.2.2.2, decode q_69.2.2.1 x.1 = .ok x.2 := by decide +kernel
theorem qd_70 : ∀ x ∈ q_70.2.2.2.2.2, decode q_70.2.2.1 x.1 = .ok x.2 := by decide +kernel
theorem qd_71 : ∀ x ∈ q_71.2.2.2.2.2, decode q_71.2.2.1 x.1 = .ok x.2 := by decide +kernel
theorem qd_72 : ∀ x ∈ q_72.2.2.2.2.2, decode q_72.2.2.1 x.1 = .ok x.2 := by decide +kernel
theorem qd_73 : ∀ x ∈ q_73.2.2.2.2.2, decode q_73.2.2.1 x.1 = .ok x.2 := by decide +kernel
theorem qd_74 : ∀ x ∈ q_74.2.2.2.2.2, decode q_74.2.2.1 x.1 = .ok x.2 := by decide +kernel
theorem qd_75 : ∀ x ∈ q_75.2.2.2.2.2, decode q_75.2.2.1 x.1 = .ok x.2 := by decide +kernel
theorem qd_76 : ∀ x ∈ q_76.2.2.2.2.2, decode q_76.2.2.1 x.1 = .ok x.2 := by decide +kernel
theorem qd_77 : ∀ x ∈ q_77.2.2.2.2.2, decode q_77.2.2.1 x.1 = .ok x.2 := by decide +kernel
theorem qd_78 : ∀ x ∈ q_78.2.2.2.2.2, decode q_78.2.2.1 x.1 = .ok x.2 := by decide +kernel
theorem qd_79 : ∀ x ∈ q_79.2.2.2.2.2, decode q_79.2.2.1 x.1 = .ok x.2 := by decide +kernel
theorem qd_80 : ∀ x ∈ q_80.2.2.2.2.2, decode q_80.2.2.1 x.1 = .ok x.2 := by decide +kernel
theorem qd_81 : ∀ x ∈ q_81.2.2.2.2.2, decode q_81.2.2.1 x.1 = .ok x.2 := by decide +kernel
theorem qd_82 : ∀ x ∈ q_82.2.2.2.2.2, decode q_82.2.2.1 x.1 = .ok x.2 := by decide +kernel
theorem qd_83 : ∀ x ∈ q_83.2.2.2.2.2, decode q_83.2.2.1 x.1 = .ok x.2 := by decide +kernel
theorem qd_84 : ∀ x ∈ q_84.2.2.2.2.2, decode q_84.2.2.1 x.1 = .ok x.2 := by decide +kernel
theorem qd_85 : ∀ x ∈ q_85.2.2.2.2.2, decode q_85.2.2.1 x.1 = .ok x.2 := by decide +kernel
theorem qd_86 : ∀ x ∈ q_86.2.2.2.2.2, decode q_86.2.2.1 x.1 = .ok x.2 := by decide +kernel
theorem qd_87 : ∀ x ∈ q_87.2.2.2.2.2, decode q_87.2.2.1 x.1 = .ok x.2 := by decide +kernel
theorem qd_88 : ∀ x ∈ q_88.2.2.2.2.2, decode q_88.2.2.1 x.1 = .ok x.2 := by decide +kernel
theorem qd_89 : ∀ x ∈ q_89.2.2.2.2.2, decode q_89.2.2.1 x.1 = .ok x.2 := by decide +kernel
theorem qd_90 : ∀ x ∈ q_90.2.2.2.2.2, decode q_90.2.2.1 x.1 = .ok x.2 := by decide +kernel
theorem qd_91 : ∀ x ∈ q_91.2.2.2.2.2, decode q_91.2.2.1 x.1 = .ok x.2 := by decide +kernel
theorem qd_92 : ∀ x ∈ q_92.2.2.2.2.2, decode q_92.2.2.1 x.1 = .ok x.2 := by decide +kernel
theorem qd_93 : ∀ x ∈ q_93.2.2.2.2.2, decode q_93.2.2.1 x.1 = .ok x.2 := by decide +kernel
theorem qd_94 : ∀ x ∈ q_94.2.2.2.2.2, decode q_94.2.2.1 x.1 = .ok x.2 := by decide +kernel
theorem qd_95 : ∀ x ∈ q_95.2.2.2.2.2, decode q_95.2.2.1 x.1 = .ok x.2 := by decide +kernel
theorem qd_96 : ∀ x ∈ q_96.2.2.2.2.2, decode q_96.2.2.1 x.1 = .ok x.2 := by decide +kernel
theorem qd_97 : ∀ x ∈ q_97.2.2.2.2.2, decode q_97.2.2.1 x.1 = .ok x.2 := by decide +kernel
theorem qd_98 : ∀ x ∈ q_98.2.2.2.2.2, decode q_98.2.2.1 x.1 = .ok x.2 := by decide +kernel
theorem qd_99 : ∀ x ∈ q_99.2.2.2.2.2, decode q_99.2.2.1 x.1 = .ok x.2 := by decide +kernel
theorem qd_100 : ∀ x ∈ q_100.2.2.2.2.2, decode q_100.2.2.1 x.1 = .ok x.2 := by decide +kernel
theorem qd_101 : ∀ x ∈ q_101.2.2.2.2.2, decode q_101.2.2.1 x.1 = .ok x.2 := by decide +kernel
theorem qd_102 : ∀ x ∈ q_102.2.2.2.2.2, decode q_102.2.2.1 x.1 = .ok x.2 := by decide +kernel
theorem qd_103 : ∀ x ∈ q_103.2.2.2.2.2, decode q_103.2.2.1 x.1 = .ok x.2 := by decide +kernel
theorem qd_104 : ∀ x ∈ q_104.2.2.2.2.2, decode q_104.2.2.1 x.1 = .ok x.2 := by decide +kernel
theorem qd_105 : ∀ x ∈ q_105.2.2.2.2.2, decode q_105.2.2.1 x.1 = .ok x.2 := by decide +kernel
theorem qd_106 : ∀ x ∈ q_106.2.2.2.2.2, decode q_106.2.2.1 x.1 = .ok x.2 := by decide +kernel
theorem qd_107 : ∀ x ∈ q_107.2.2.2.2.2, decode q_107.2.2.1 x.1 = .ok x.2 := by decide +kernel
theorem qd_108 : ∀ x ∈ q_108.2.2.2.2.2, decode q_108.2.2.1 x.1 = .ok x.2 := by decide +kernel
theorem qd_109 : ∀ x ∈ q_109.2.2.2.2.2, decode q_109.2.2.1 x.1 = .ok x.2 := by decide +kernel
theorem qd_110 : ∀ x ∈ q_110.2.2.2.2.2, decode q_110.2.2.1 x.1 = .ok x.2 := by decide +kernel
theorem qd_111 : ∀ x ∈ q_111.2.2.2.2.2, decode q_111.2.2.1 x.1 = .ok x.2 := by decide +kernel
theorem qd_112 : ∀ x ∈ q_112.2.2.2.2.2, decode q_112.2.2.1 x.1 = .ok x.2 := by decide +kernel
theorem qd_113 : ∀ x ∈ q_113.2.2.2.2.2, decode q_113.2.2.1 x.1 = .ok x.2 := by decide +kernel
theorem qd_114 : ∀ x ∈ q_114.2.2.2.2.2, decode q_114.2.2.1 x.1 = .ok x.2 := by decide +kernel
theorem qd_115 : ∀ x ∈ q_115.2.2.2.2.2, decode q_115.2.2.1 x.1 = .ok x.2 := by decide +kernel
theorem qd_116 : ∀ x ∈ q_116.2.2.2.2.2, decode q_116.2.2.1 x.1 = .ok x.2 := by decide +kernel
theorem qd_117 : ∀ x ∈ q_117.2.2.2.2.2, decode q_117.2.2.1 x.1 = .ok x.2 := by decide +kernel
theorem qd_118 : ∀ x ∈ q_118.2.2.2.2.2, decode q_118.2.2.1 x.1 = .ok x.2 := by decide +kernel
theorem qd_119 : ∀ x ∈ q_119.2.2.2.2.2, decode q_119.2.2.1 x.1 = .ok x.2 := by decide +kernel
theorem qd_120 : ∀ x ∈ q_120.2.2.2.2.2, decode q_120.2.2.1 x.1 = .ok x.2 := by decide +kernel
theorem qd_121 : ∀ x ∈ q_121.2.2.2.2.2, decode q_121.2.2.1 x.1 = .ok x.2 := by decide +kernel
theorem qd_122 : ∀ x ∈ q_122.2.2.2.2.2, decode q_122.2.2.1 x.1 = .ok x.2 := by decide +kernel
theorem qd_123 : ∀ x ∈ q_123.2.2.2.2.2, decode q_123.2.2.1 x.1 = .ok x.2 := by decide +kernel
theorem qd_124 : ∀ x ∈ q_124.2.2.2.2.2, decode q_124.2.2.1 x.1 = .ok x.2 := by decide +kernel
theorem qd_125 : ∀ x ∈ q_125.2.2.2.2.2, decode q_125.2.2.1 x.1 = .ok x.2 := by decide +kernel
theorem qd_126 : ∀ x ∈ q_126.2.2.2.2.2, decode q_126.2.2.1 x.1 = .ok x.2 := by decide +kernel
theorem qd_127 : ∀ x ∈ q_127.2.2.2.2.2, decode q_127.2.2.1 x.1 = .ok x.2 := by decide +kernel
theorem qd_128 : ∀ x ∈ q_128.2.2.2.2.2, decode q_128.2.2.1 x.1 = .ok x.2 := by decide +kernel
theorem qd_129 : ∀ x ∈ q_129.2.2.2.2.2, decode q_129.2.2.1 x.1 = .ok x.2 := by decide +kernel
theorem qd_130 : ∀ x ∈ q_130.2.2.2.2.2, decode q_130.2.2.1 x.1 = .ok x.2 := by decide +kernel
theorem qd_131 : ∀ x ∈ q_131.2.2.2.2.2, decode q_131.2.2.1 x.1 = .ok x.2 := by decide +kernel
theorem qd_132 : ∀ x ∈ q_132.2.2.2.2.2, decode q_132.2.2.1 x.1 = .ok x.2 := by decide +kernel
theorem qd_133 : ∀ x ∈ q_133.2.2.2.2.2, decode q_133.2.2.1 x.1 = .ok x.2 := by decide +kernel
theorem qd_134 : ∀ x ∈ q_134.2.2.2.2.2, decode q_134.2.2.1 x.1 = .ok x.2 := by decide +kernel
theorem qd_135 : ∀ x ∈ q_135.2.2.2.2.2, decode q_135.2.2.1 x.1 = .ok x.2 := by decide +kernel
theorem qd_136 : ∀ x ∈ q_136.2.2.2.2.2, decode q_136.2.2.1 x.1 = .ok x.2 := by decide +kernel
theorem qd_137 : ∀ x ∈ q_137.2.2.2.2.2, decode q_137.2.2.1 x.1 = .ok x.2 := by decide +kernel
theorem qd_138 : ∀ x ∈ q_138.2.2.2.2.2, decode q_138.2.2.1 x.1 = .ok x.2 := by decide +kernel
theorem qd_139 : ∀ x ∈ q_139.2.2.2.2.2, decode q_139.2.2.1 x.1 = .ok x.2 := by decide +kernel
theorem qd_140 : ∀ x ∈ q_140.2.2.2.2.2, decode q_140.2.2.1 x.1 = .ok x.2 := by decide +kernel
theorem qd_141 : ∀ x ∈ q_141.2.2.2.2.2, decode q_141.2.2.1 x.1 = .ok x.2 := by decide +kernel
theorem qd_142 : ∀ x ∈ q_142.2.2.2.2.2, decode q_142.2.2.1 x.1 = .ok x.2 := by decide +kernel
theorem qd_143 : ∀ x ∈ q_143.2.2.2.2.2, decode q_143.2.2.1 x.1 = .ok x.2 := by decide +kernel
theorem qd_144 : ∀ x ∈ q_144.2.2.2.2.2, decode q_144.2.2.1 x.1 = .ok x.2 := by decide +kernel
theorem qd_145 : ∀ x ∈ q_145.2.2.2.2.2, decode q_145.2.2.1 x.1 = .ok x.2 := by decide +kernel
theorem qd_146 : ∀ x ∈ q_146.2.2.2.2.2, decode q_146.2.2.1 x.1 = .ok x.2 := by decide +kernel
theorem qd_147 : ∀ x ∈ q_147.2.2.2.2.2, decode q_147.2.2.1 x.1 = .ok x.2 := by decide +kernel
theorem qd_148 : ∀ x ∈ q_148.2.2.2.2.2, decode q_148.2.2.1 x.1 = .ok x.2 := by decide +kernel
theorem qd_149 : ∀ x ∈ q_149.2.2.2.2.2, decode q_149.2.2.1 x.1 = .ok x.2 := by decide +kernel
theorem qd_150 : ∀ x ∈ q_150.2.2.2.2.2, decode q_150.2.2.1 x.1 = .ok x.2 := by decide +kernel
theorem qd_151 : ∀ x ∈ q_151.2.2.2.2.2, decode q_151.2.2.1 x.1 = .ok x.2 := by decide +kernel
theorem qd_152 : ∀ x ∈ q_152.2.2.2.2.2, decode q_152.2.2.1 x.1 = .ok x.2 := by decide +kernel
theorem qd_153 : ∀ x ∈ q_153.2.2.2.2.2, decode q_153.2.2.1 x.1 = .ok x.2 := by decide +kernel
theorem qd_154 : ∀ x ∈ q_154.2.2.2.2.2, decode q_154.2.2.1 x.1 = .ok x.2 := by decide +kernel
theorem qd_155 : ∀ x ∈ q_155.2.2.2.2.2, decode q_155.2.2.1 x.1 = .ok x.2 := by decide +kernel
theorem qd_156 : ∀ x ∈ q_156.2.2.2.2.2, decode q_156.2.2.1 x.1 = .ok x.2 := by decide +kernel
theorem qd_157 : ∀ x ∈ q_157.2.2.2.2.2, decode q_157.2.2.1 x.1 = .ok x.2 := by decide +kernel
theorem qd_158 : ∀ x ∈ q_158.2.2.2.2.2, decode q_158.2.2.1 x.1 = .ok x.2 := by decide +kernel
theorem qd_159 : ∀ x ∈ q_159.2.2.2.2.2, decode q_159.2.2.1 x.1 = .ok x.2 := by decide +kernel
theorem qd_160 : ∀ x ∈ q_160.2.2.2.2.2, decode q_160.2.2.1 x.1 = .ok x.2 := by decide +kernel
theorem qd_161 : ∀ x ∈ q_161.2.2.2.2.2, decode q_161.2.2.1 x.1 = .ok x.2 := by decide +kernel
theorem qd_162 : ∀ x ∈ q_162.2.2.2.2.2, decode q_162.2.2.1 x.1 = .ok x.2 := by decide +kernel
theorem qd_163 : ∀ x ∈ q_163.2.2.2.2.2, decode q_163.2.2.1 x.1 = .ok x.2 := by decide +kernel
theorem qd_164 : ∀ x ∈ q_164.2.2.2.2.2, decode q_164.2.2.1 x.1 = .ok x.2 := by decide +kernel
theorem qd_165 : ∀ x ∈ q_165.2.2.2.2.2, decode q_165.2.2.1 x.1 = .ok x.2 := by decide +kernel
theorem qd_166 : ∀ x ∈ q_166.2.2.2.2.2, decode q_166.2.2.1 x.1 = .ok x.2 := by decide +kernel
theorem qd_167 : ∀ x ∈ q_167.2.2.2.2.2, decode q_167.2.2.1 x.1 = .ok x.2 := by decide +kernel
theorem qd_168 : ∀ x ∈ q_168.2.2.2.2.2, decode q_168.2.2.1 x.1 = .ok x.2 := by decide +kernel
theorem qd_169 : ∀ x ∈ q_169.2.2.2.2.2, decode q_169.2.2.1 x.1 = .ok x.2 := by decide +kernel
theorem qd_170 : ∀ x ∈ q_170.2.2.2.2.2, decode q_170.2.2.1 x.1 = .ok x.2 := by decide +kernel
theorem qd_171 : ∀ x ∈ q_171.2.2.2.2.2, decode q_171.2.2.1 x.1 = .ok x.2 := by decide +kernel
theorem qd_172 : ∀ x ∈ q_172.2.2.2.2.2, decode q_172.2.2.1 x.1 = .ok x.2 := by decide +kernel
theorem qd_173 : ∀ x ∈ q_173.2.2.2.2.2, decode q_173.2.2.1 x.1 = .ok x.2 := by decide +kernel
theorem qd_174 : ∀ x ∈ q_174.2.2.2.2.2, decode q_174.2.2.1 x.1 = .ok x.2 := by decide +kernel
theorem qd_175 : ∀ x ∈ q_175.2.2.2.2.2, decode q_175.2.2.1 x.1 = .ok x.2 := by decide +kernel
theorem qd_176 : ∀ x ∈ q_176.2.2.2.2.2, decode q_176.2.2.1 x.1 = .ok x.2 := by decide +kernel
theorem qd_177 : ∀ x ∈ q_177.2.2.2.2.2, decode q_177.2.2.1 x.1 = .ok x.2 := by decide +kernel
theorem qd_178 : ∀ x ∈ q_178.2.2.2.2.2, decode q_178.2.2.1 x.1 = .ok x.2 := by decide +kernel
theorem qd_179 : ∀ x ∈ q_179.2.2.2.2.2, decode q_179.2.2.1 x.1 = .ok x.2 := by decide +kernel
theorem qd_180 : ∀ x ∈ q_180.2.2.2.2.2, decode q_180.2.2.1 x.1 = .ok x.2 := by decide +kernel
theorem qd_181 : ∀ x ∈ q_181.2.2.2.2.2, decode q_181.2.2.1 x.1 = .ok x.2 := by decide +kernel
theorem qd_182 : ∀ x ∈ q_182.2.2.2.2.2, decode q_182.2.2.1 x.1 = .ok x.2 := by decide +kernel
theorem qd_183 : ∀ x ∈ q_183.2.2.2.2.2, decode q_183.2.2.1 x.1 = .ok x.2 := by decide +kernel
theorem qd_184 : ∀ x ∈ q_184.2.2.2.2.2, decode q_184.2.2.1 x.1 = .ok x.2 := by decide +kernel
theorem qd_185 : ∀ x ∈ q_185.2.2.2.2.2, decode q_185.2.2.1 x.1 = .ok x.2 := by decide +kernel
theorem qd_186 : ∀ x ∈ q_186.2.2.2.2.2, decode q_186.2.2.1 x.1 = .ok x.2 := by decide +kernel
theorem qd_187 : ∀ x ∈ q_187.2.2.2.2.2, decode q_187.2.2.1 x.1 = .ok x.2 := by decide +kernel
theorem qd_188 : ∀ x ∈ q_188.2.2.2.2.2, decode q_188.2.2.1 x.1 = .ok x.2 := by decide +kernel
theorem qd_189 : ∀ x ∈ q_189.2.2.2.2.2, decode q_189.2.2.1 x.1 = .ok x.2 := by decide +kernel
theorem qd_190 : ∀ x ∈ q_190.2.2.2.2.2, decode q_190.2.2.1 x.1 = .ok x.2 := by decide +kernel
theorem qd_191 : ∀ x ∈ q_191.2.2.2.2.2, decode q_191.2.2.1 x.1 = .ok x.2 := by decide +kernel
theorem qd_192 : ∀ x ∈ q_192.2.2.2.2.2, decode q_192.2.2.1 x.1 = .ok x.2 := by decide +kernel
theorem qd_193 : ∀ x ∈ q_193.2.2.2.2.2, decode q_193.2.2.1 x.1 = .ok x.2 := by decide +kernel
theorem qd_194 : ∀ x ∈ q_194.2.2.2.2.2, decode q_194.2.2.1 x.1 = .ok x.2 := by decide +kernel
theorem qd_195 : ∀ x ∈ q_195.2.2.2.2.2, decode q_195.2.2.1 x.1 = .ok x.2 := by decide +kernel
theorem qd_196 : ∀ x ∈ q_196.2.2.2.2.2, decode q_196.2.2.1 x.1 = .ok x.2 := by decide +kernel
theorem qd_197 : ∀ x ∈ q_197.2.2.2.2.2, decode q_197.2.2.1 x.1 = .ok x.2 := by decide +kernel
theorem qd_198 : ∀ x ∈ q_198.2.2.2.2.2, decode q_198.2.2.1 x.1 = .ok x.2 := by decide +kernel
theorem qd_199 : ∀ x ∈ q_199.2.2.2.2.2, decode q_199.2.2.1 x.1 = .ok x.2 := by decide +kernel
theorem qd_200 : ∀ x ∈ q_200.2.2.2.2.2, decode q_200.2.2.1 x.1 = .ok x.2 := by decide +kernel
theorem qd_201 : ∀ x ∈ q_201.2.2.2.2.2, decode q_201.2.2.1 x.1 = .ok x.2 := by decide +kernel
theorem qd_202 : ∀ x ∈ q_202.2.2.2.2.2, decode q_202.2.2.1 x.1 = .ok x.2 := by decide +kernel
theorem qd_203 : ∀ x ∈ q_203.2.2.2.2.2, decode q_203.2.2.1 x.1 = .ok x.2 := by decide +kernel
theorem qd_204 : ∀ x ∈ q_204.2.2.2.2.2, decode q_204.2.2.1 x.1 = .ok x.2 := by decide +kernel
theorem qd_205 : ∀ x ∈ q_205.2.2.2.2.2, decode q_205.2.2.1 x.1 = .ok x.2 := by decide +kernel
theorem qd_206 : ∀ x ∈ q_206.2.2.2.2.2, decode q_206.2.2.1 x.1 = .ok x.2 := by decide +kernel
theorem qd_207 : ∀ x ∈ q_207.2.2.2.2.2, decode q_207.2.2.1 x.1 = .ok x.2 := by decide +kernel
theorem qd_208 : ∀ x ∈ q_208.2.2.2.2.2, decode q_208.2.2.1 x.1 = .ok x.2 := by decide +kernel
theorem qd_209 : ∀ x ∈ q_209.2.2.2.2.2, decode q_209.2.2.1 x.1 = .ok x.2 := by decide +kernel
theorem qd_210 : ∀ x ∈ q_210.2.2.2.2.2, decode q_210.2.2.1 x.1 = .ok x.2 := by decide +kernel
theorem qd_211 : ∀ x ∈ q_211.2.2.2.2.2, decode q_211.2.2.1 x.1 = .ok x.2 := by decide +kernel
theorem qd_212 : ∀ x ∈ q_212.2.2.2.2.2, decode q_212.2.2.1 x.1 = .ok x.2 := by decide +kernel
theorem qd_213 : ∀ x ∈ q_213.2.2.2.2.2, decode q_213.2.2.1 x.1 = .ok x.2 := by decide +kernel
theorem qd_214 : ∀ x ∈ q_214.2.2.2.2.2, decode q_214.2.2.1 x.1 = .ok x.2 := by decide +kernel
theorem qd_215 : ∀ x ∈ q_215.2.2.2.2.2, decode q_215.2.2.1 x.1 = .ok x.2 := by decide +kernel
theorem qd_216 : ∀ x ∈ q_216.2.2.2.2.2, decode q_216.2.2.1 x.1 = .ok x.2 := by decide +kernel
theorem qd_217 : ∀ x ∈ q_217.2.2.2.2.2, decode q_217.2.2.1 x.1 = .ok x.2 := by decide +kernel
theorem qd_218 : ∀ x ∈ q_218.2.2.2.2.2, decode q_218.2.2.1 x.1 = .ok x.2 := by decide +kernel
theorem qd_219 : ∀ x ∈ q_219.2.2.2.2.2, decode q_219.2.2.1 x.1 = .ok x.2 := by decide +kernel
theorem qd_220 : ∀ x ∈ q_220.2.2.2.2.2, decode q_220.2.2.1 x.1 = .ok x.2 := by decide +kernel
theorem qd_221 : ∀ x ∈ q_221.2.2.2.2.2, decode q_221.2.2.1 x.1 = .ok x.2 := by decide +kernel
theorem qd_222 : ∀ x ∈ q_222.2.2.2.2.2, decode q_222.2.2.1 x.1 = .ok x.2 := by decide +kernel
theorem qd_223 : ∀ x ∈ q_223.2.2.2.2.2, decode q_223.2.2.1 x.1 = .ok x.2 := by decide +kernel
theorem qd_224 : ∀ x ∈ q_224.2.2.2.2.2, decode q_224.2.2.1 x.1 = .ok x.2 := by decide +kernel
theorem qd_225 : ∀ x ∈ q_225.2.2.2.2.2, decode q_225.2.2.1 x.1 = .ok x.2 := by decide +kernel
theorem qd_226 : ∀ x ∈ q_226.2.2.2.2.2, decode q_226.2.2.1 x.1 = .ok x.2 := by decide +kernel
theorem qd_227 : ∀ x ∈ q_227.2.2.2.2.2, decode q_227.2.2.1 x.1 = .ok x.2 := by decide +kernel
theorem qd_228 : ∀ x ∈ q_228.2.2.2.2.2, decode q_228.2.2.1 x.1 = .ok x.2 := by decide +kernel
theorem qd_229 : ∀ x ∈ q_229.2.2.2.2.2, decode q_229.2.2.1 x.1 = .ok x.2 := by decide +kernel
theorem qd_230 : ∀ x ∈ q_230.2.2.2.2.2, decode q_230.2.2.1 x.1 = .ok x.2 := by decide +kernel
end
section
theorem kw_82 : (Jvm.Cond.instanceMethod ({ cls := "StandUpBook$Vee", name := "<init>", desc := "()V" } : Jvm.MethodName)) ∈ pm_tbl := pm_mem 82 (by decide +kernel) rfl
theorem kw_519 : (Jvm.Cond.methodLink "StandUpBook$Box" (9 : Nat) ({ cls := "StandUpBook$Vee", name := "riseOf", desc := "(III)I" } : Jvm.MethodName)) ∈ pm_tbl := pm_mem 519 (by decide +kernel) rfl
theorem kw_515 : (Jvm.Cond.sameMethod "StandUpBook$Vee" "StandUpBook$Vee" "riseOf" "(III)I") ∈ pm_tbl := pm_mem 515 (by decide +kernel) rfl
theorem kw_99 : (Jvm.Cond.superclass "StandUpBook$Box" "StandUpBook$Vee") ∈ pm_tbl := pm_mem 99 (by decide +kernel) rfl
theorem kw_513 : (Jvm.Cond.instanceMethod ({ cls := "StandUpBook$Vee", name := "riseOf", desc := "(III)I" } : Jvm.MethodName)) ∈ pm_tbl := pm_mem 513 (by decide +kernel) rfl
theorem kw_598 : (Jvm.Cond.methodLink "StandUpBook$Box" (13 : Nat) ({ cls := "StandUpBook$Vee", name := "reachOf", desc := "(II)I" } : Jvm.MethodName)) ∈ pm_tbl := pm_mem 598 (by decide +kernel) rfl
theorem kw_594 : (Jvm.Cond.sameMethod "StandUpBook$Vee" "StandUpBook$Vee" "reachOf" "(II)I") ∈ pm_tbl := pm_mem 594 (by decide +kernel) rfl
theorem kw_592 : (Jvm.Cond.instanceMethod ({ cls := "StandUpBook$Vee", name := "reachOf", desc := "(II)I" } : Jvm.MethodName)) ∈ pm_tbl := pm_mem 592 (by decide +kernel) rfl
theorem kw_324 : (Jvm.Cond.methodLink "StandUpBook$Box" (17 : Nat) ({ cls := "StandUpBook$Vee", name := "bearing", desc := "()I" } : Jvm.MethodName)) ∈ pm_tbl := pm_mem 324 (by decide +kernel) rfl
theorem kw_320 : (Jvm.Cond.sameMethod "StandUpBook$Vee" "StandUpBook$Vee" "bearing" "()I") ∈ pm_tbl := pm_mem 320 (by decide +kernel) rfl
theorem kw_318 : (Jvm.Cond.instanceMethod ({ cls := "StandUpBook$Vee", name := "bearing", desc := "()I" } : Jvm.MethodName)) ∈ pm_tbl := pm_mem 318 (by decide +kernel) rfl
theorem kw_523 : (Jvm.Cond.methodLink "StandUpBook$Flap" (7 : Nat) ({ cls := "StandUpBook$Vee", name := "riseOf", desc := "(III)I" } : Jvm.MethodName)) ∈ pm_tbl := pm_mem 523 (by decide +kernel) rfl
theorem kw_106 : (Jvm.Cond.superclass "StandUpBook$Flap" "StandUpBook$Vee") ∈ pm_tbl := pm_mem 106 (by decide +kernel) rfl
theorem kw_602 : (Jvm.Cond.methodLink "StandUpBook$Flap" (11 : Nat) ({ cls := "StandUpBook$Vee", name := "reachOf", desc := "(II)I" } : Jvm.MethodName)) ∈ pm_tbl := pm_mem 602 (by decide +kernel) rfl
theorem kw_139 : (Jvm.Cond.instanceMethod ({ cls := "StandUpBook$Piece", name := "<init>", desc := "()V" } : Jvm.MethodName)) ∈ pm_tbl := pm_mem 139 (by decide +kernel) rfl
theorem kw_476 : (Jvm.Cond.methodLink "StandUpBook$Page" (36 : Nat) ({ cls := "StandUpBook$Piece", name := "copyFrom", desc := "(LStandUpBook$Piece;)V" } : Jvm.MethodName)) ∈ pm_tbl := pm_mem 476 (by decide +kernel) rfl
theorem kw_477 : (Jvm.Cond.instanceMethod ({ cls := "StandUpBook$Piece", name := "copyFrom", desc := "(LStandUpBook$Piece;)V" } : Jvm.MethodName)) ∈ pm_tbl := pm_mem 477 (by decide +kernel) rfl
theorem kw_478 : (Jvm.Cond.selects "StandUpBook$Piece" ({ cls := "StandUpBook$Piece", name := "copyFrom", desc := "(LStandUpBook$Piece;)V" } : Jvm.MethodName) ({ cls := "StandUpBook$Piece", name := "copyFrom", desc := "(LStandUpBook$Piece;)V" } : Jvm.MethodName)) ∈ pm_tbl := pm_mem 478 (by decide +kernel) rfl
theorem kw_316 : (Jvm.Cond.methodLink "StandUpBook$Page" (40 : Nat) ({ cls := "StandUpBook$Page", name := "isFull", desc := "()Z" } : Jvm.MethodName)) ∈ pm_tbl := pm_mem 316 (by decide +kernel) rfl
theorem kw_305 : (Jvm.Cond.instanceMethod ({ cls := "StandUpBook$Page", name := "isFull", desc := "()Z" } : Jvm.MethodName)) ∈ pm_tbl := pm_mem 305 (by decide +kernel) rfl
theorem kw_306 : (Jvm.Cond.selects "StandUpBook$Page" ({ cls := "StandUpBook$Page", name := "isFull", desc := "()Z" } : Jvm.MethodName) ({ cls := "StandUpBook$Page", name := "isFull", desc := "()Z" } : Jvm.MethodName)) ∈ pm_tbl := pm_mem 306 (by decide +kernel) rfl
theorem kw_317 : (Jvm.Cond.methodLink "StandUpBook$Page" (65 : Nat) ({ cls := "StandUpBook$Vee", name := "bearing", desc := "()I" } : Jvm.MethodName)) ∈ pm_tbl := pm_mem 317 (by decide +kernel) rfl
theorem kw_319 : (Jvm.Cond.selects "StandUpBook$Vee" ({ cls := "StandUpBook$Vee", name := "bearing", desc := "()I" } : Jvm.MethodName) ({ cls := "StandUpBook$Vee", name := "bearing", desc := "()I" } : Jvm.MethodName)) ∈ pm_tbl := pm_mem 319 (by decide +kernel) rfl
theorem kw_321 : (Jvm.Cond.selects "StandUpBook$Box" ({ cls := "StandUpBook$Vee", name := "bearing", desc := "()I" } : Jvm.MethodName) ({ cls := "StandUpBook$Box", name := "bearing", desc := "()I" } : Jvm.MethodName)) ∈ pm_tbl := pm_mem 321 (by decide +kernel) rfl
theorem kw_322 : (Jvm.Cond.instanceMethod ({ cls := "StandUpBook$Box", name := "bearing", desc := "()I" } : Jvm.MethodName)) ∈ pm_tbl := pm_mem 322 (by decide +kernel) rfl
theorem kw_326 : (Jvm.Cond.selects "StandUpBook$Stage" ({ cls := "StandUpBook$Vee", name := "bearing", desc := "()I" } : Jvm.MethodName) ({ cls := "StandUpBook$Stage", name := "bearing", desc := "()I" } : Jvm.MethodName)) ∈ pm_tbl := pm_mem 326 (by decide +kernel) rfl
theorem kw_327 : (Jvm.Cond.instanceMethod ({ cls := "StandUpBook$Stage", name := "bearing", desc := "()I" } : Jvm.MethodName)) ∈ pm_tbl := pm_mem 327 (by decide +kernel) rfl
theorem kw_325 : (Jvm.Cond.selects "StandUpBook$Flap" ({ cls := "StandUpBook$Vee", name := "bearing", desc := "()I" } : Jvm.MethodName) ({ cls := "StandUpBook$Vee", name := "bearing", desc := "()I" } : Jvm.MethodName)) ∈ pm_tbl := pm_mem 325 (by decide +kernel) rfl
theorem kw_331 : (Jvm.Cond.selects "StandUpBook$Wheel" ({ cls := "StandUpBook$Vee", name := "bearing", desc := "()I" } : Jvm.MethodName) ({ cls := "StandUpBook$Wheel", name := "bearing", desc := "()I" } : Jvm.MethodName)) ∈ pm_tbl := pm_mem 331 (by decide +kernel) rfl
theorem kw_332 : (Jvm.Cond.instanceMethod ({ cls := "StandUpBook$Wheel", name := "bearing", desc := "()I" } : Jvm.MethodName)) ∈ pm_tbl := pm_mem 332 (by decide +kernel) rfl
theorem kw_330 : (Jvm.Cond.selects "StandUpBook$Tent" ({ cls := "StandUpBook$Vee", name := "bearing", desc := "()I" } : Jvm.MethodName) ({ cls := "StandUpBook$Vee", name := "bearing", desc := "()I" } : Jvm.MethodName)) ∈ pm_tbl := pm_mem 330 (by decide +kernel) rfl
theorem kw_460 : (Jvm.Cond.methodLink "StandUpBook$Page" (80 : Nat) ({ cls := "StandUpBook$Piece", name := "isStuck", desc := "()Z" } : Jvm.MethodName)) ∈ pm_tbl := pm_mem 460 (by decide +kernel) rfl
theorem kw_461 : (Jvm.Cond.instanceMethod ({ cls := "StandUpBook$Piece", name := "isStuck", desc := "()Z" } : Jvm.MethodName)) ∈ pm_tbl := pm_mem 461 (by decide +kernel) rfl
theorem kw_462 : (Jvm.Cond.selects "StandUpBook$Piece" ({ cls := "StandUpBook$Piece", name := "isStuck", desc := "()Z" } : Jvm.MethodName) ({ cls := "StandUpBook$Piece", name := "isStuck", desc := "()Z" } : Jvm.MethodName)) ∈ pm_tbl := pm_mem 462 (by decide +kernel) rfl
theorem kw_510 : (Jvm.Cond.static ({ cls := "StandUpBook", name := "has", desc := "(II)Z" } : Jvm.MethodName)) ∈ pm_tbl := pm_mem 510 (by decide +kernel) rfl
theorem kw_558 : (Jvm.Cond.static ({ cls := "StandUpBook$Page", name := "numberWithout", desc := "(II)I" } : Jvm.MethodName)) ∈ pm_tbl := pm_mem 558 (by decide +kernel) rfl
theorem kw_557 : (Jvm.Cond.methodLink "StandUpBook$Page" (91 : Nat) ({ cls := "StandUpBook$Page", name := "numberWithout", desc := "(II)I" } : Jvm.MethodName)) ∈ pm_tbl := pm_mem 557 (by decide +kernel) rfl
theorem kw_561 : (Jvm.Cond.static ({ cls := "java/lang/Integer", name := "bitCount", desc := "(I)I" } : Jvm.MethodName)) ∈ pm_tbl := pm_mem 561 (by decide +kernel) rfl
theorem kw_560 : (Jvm.Cond.methodLink "StandUpBook$Page" (94 : Nat) ({ cls := "java/lang/Integer", name := "bitCount", desc := "(I)I" } : Jvm.MethodName)) ∈ pm_tbl := pm_mem 560 (by decide +kernel) rfl
theorem kw_512 : (Jvm.Cond.methodLink "StandUpBook$Page" (99 : Nat) ({ cls := "StandUpBook$Vee", name := "riseOf", desc := "(III)I" } : Jvm.MethodName)) ∈ pm_tbl := pm_mem 512 (by decide +kernel) rfl
theorem kw_514 : (Jvm.Cond.selects "StandUpBook$Vee" ({ cls := "StandUpBook$Vee", name := "riseOf", desc := "(III)I" } : Jvm.MethodName) ({ cls := "StandUpBook$Vee", name := "riseOf", desc := "(III)I" } : Jvm.MethodName)) ∈ pm_tbl := pm_mem 514 (by decide +kernel) rfl
theorem kw_516 : (Jvm.Cond.selects "StandUpBook$Box" ({ cls := "StandUpBook$Vee", name := "riseOf", desc := "(III)I" } : Jvm.MethodName) ({ cls := "StandUpBook$Box", name := "riseOf", desc := "(III)I" } : Jvm.MethodName)) ∈ pm_tbl := pm_mem 516 (by decide +kernel) rfl
theorem kw_517 : (Jvm.Cond.instanceMethod ({ cls := "StandUpBook$Box", name := "riseOf", desc := "(III)I" } : Jvm.MethodName)) ∈ pm_tbl := pm_mem 517 (by decide +kernel) rfl
theorem kw_524 : (Jvm.Cond.selects "StandUpBook$Stage" ({ cls := "StandUpBook$Vee", name := "riseOf", desc := "(III)I" } : Jvm.MethodName) ({ cls := "StandUpBook$Stage", name := "riseOf", desc := "(III)I" } : Jvm.MethodName)) ∈ pm_tbl := pm_mem 524 (by decide +kernel) rfl
theorem kw_525 : (Jvm.Cond.instanceMethod ({ cls := "StandUpBook$Stage", name := "riseOf", desc := "(III)I" } : Jvm.MethodName)) ∈ pm_tbl := pm_mem 525 (by decide +kernel) rfl
theorem kw_520 : (Jvm.Cond.selects "StandUpBook$Flap" ({ cls := "StandUpBook$Vee", name := "riseOf", desc := "(III)I" } : Jvm.MethodName) ({ cls := "StandUpBook$Flap", name := "riseOf", desc := "(III)I" } : Jvm.MethodName)) ∈ pm_tbl := pm_mem 520 (by decide +kernel) rfl
theorem kw_521 : (Jvm.Cond.instanceMethod ({ cls := "StandUpBook$Flap", name := "riseOf", desc := "(III)I" } : Jvm.MethodName)) ∈ pm_tbl := pm_mem 521 (by decide +kernel) rfl
theorem kw_532 : (Jvm.Cond.selects "StandUpBook$Wheel" ({ cls := "StandUpBook$Vee", name := "riseOf", desc := "(III)I" } : Jvm.MethodName) ({ cls := "StandUpBook$Wheel", name := "riseOf", desc := "(III)I" } : Jvm.MethodName)) ∈ pm_tbl := pm_mem 532 (by decide +kernel) rfl
theorem kw_533 : (Jvm.Cond.instanceMethod ({ cls := "StandUpBook$Wheel", name := "riseOf", desc := "(III)I" } : Jvm.MethodName)) ∈ pm_tbl := pm_mem 533 (by decide +kernel) rfl
theorem kw_528 : (Jvm.Cond.selects "StandUpBook$Tent" ({ cls := "StandUpBook$Vee", name := "riseOf", desc := "(III)I" } : Jvm.MethodName) ({ cls := "StandUpBook$Tent", name := "riseOf", desc := "(III)I" } : Jvm.MethodName)) ∈ pm_tbl := pm_mem 528 (by decide +kernel) rfl
theorem kw_529 : (Jvm.Cond.instanceMethod ({ cls := "StandUpBook$Tent", name := "riseOf", desc := "(III)I" } : Jvm.MethodName)) ∈ pm_tbl := pm_mem 529 (by decide +kernel) rfl
theorem kw_591 : (Jvm.Cond.methodLink "StandUpBook$Page" (103 : Nat) ({ cls := "StandUpBook$Vee", name := "reachOf", desc := "(II)I" } : Jvm.MethodName)) ∈ pm_tbl := pm_mem 591 (by decide +kernel) rfl
theorem kw_593 : (Jvm.Cond.selects "StandUpBook$Vee" ({ cls := "StandUpBook$Vee", name := "reachOf", desc := "(II)I" } : Jvm.MethodName) ({ cls := "StandUpBook$Vee", name := "reachOf", desc := "(II)I" } : Jvm.MethodName)) ∈ pm_tbl := pm_mem 593 (by decide +kernel) rfl
theorem kw_595 : (Jvm.Cond.selects "StandUpBook$Box" ({ cls := "StandUpBook$Vee", name := "reachOf", desc := "(II)I" } : Jvm.MethodName) ({ cls := "StandUpBook$Box", name := "reachOf", desc := "(II)I" } : Jvm.MethodName)) ∈ pm_tbl := pm_mem 595 (by decide +kernel) rfl
theorem kw_596 : (Jvm.Cond.instanceMethod ({ cls := "StandUpBook$Box", name := "reachOf", desc := "(II)I" } : Jvm.MethodName)) ∈ pm_tbl := pm_mem 596 (by decide +kernel) rfl
theorem kw_603 : (Jvm.Cond.selects "StandUpBook$Stage" ({ cls := "StandUpBook$Vee", name := "reachOf", desc := "(II)I" } : Jvm.MethodName) ({ cls := "StandUpBook$Box", name := "reachOf", desc := "(II)I" } : Jvm.MethodName)) ∈ pm_tbl := pm_mem 603 (by decide +kernel) rfl
theorem kw_599 : (Jvm.Cond.selects "StandUpBook$Flap" ({ cls := "StandUpBook$Vee", name := "reachOf", desc := "(II)I" } : Jvm.MethodName) ({ cls := "StandUpBook$Flap", name := "reachOf", desc := "(II)I" } : Jvm.MethodName)) ∈ pm_tbl := pm_mem 599 (by decide +kernel) rfl
theorem kw_600 : (Jvm.Cond.instanceMethod ({ cls := "StandUpBook$Flap", name := "reachOf", desc := "(II)I" } : Jvm.MethodName)) ∈ pm_tbl := pm_mem 600 (by decide +kernel) rfl
theorem kw_605 : (Jvm.Cond.selects "StandUpBook$Wheel" ({ cls := "StandUpBook$Vee", name := "reachOf", desc := "(II)I" } : Jvm.MethodName) ({ cls := "StandUpBook$Wheel", name := "reachOf", desc := "(II)I" } : Jvm.MethodName)) ∈ pm_tbl := pm_mem 605 (by decide +kernel) rfl
theorem kw_606 : (Jvm.Cond.instanceMethod ({ cls := "StandUpBook$Wheel", name := "reachOf", desc := "(II)I" } : Jvm.MethodName)) ∈ pm_tbl := pm_mem 606 (by decide +kernel) rfl
theorem kw_604 : (Jvm.Cond.selects "StandUpBook$Tent" ({ cls := "StandUpBook$Vee", name := "reachOf", desc := "(II)I" } : Jvm.MethodName) ({ cls := "StandUpBook$Vee", name := "reachOf", desc := "(II)I" } : Jvm.MethodName)) ∈ pm_tbl := pm_mem 604 (by decide +kernel) rfl
theorem kw_505 : (Jvm.Cond.methodLink "StandUpBook$Page" (106 : Nat) ({ cls := "StandUpBook$Page", name := "measure", desc := "(II)V" } : Jvm.MethodName)) ∈ pm_tbl := pm_mem 505 (by decide +kernel) rfl
theorem kw_506 : (Jvm.Cond.instanceMethod ({ cls := "StandUpBook$Page", name := "measure", desc := "(II)V" } : Jvm.MethodName)) ∈ pm_tbl := pm_mem 506 (by decide +kernel) rfl
theorem kw_507 : (Jvm.Cond.selects "StandUpBook$Page" ({ cls := "StandUpBook$Page", name := "measure", desc := "(II)V" } : Jvm.MethodName) ({ cls := "StandUpBook$Page", name := "measure", desc := "(II)V" } : Jvm.MethodName)) ∈ pm_tbl := pm_mem 507 (by decide +kernel) rfl
theorem kw_537 : (Jvm.Cond.methodLink "StandUpBook$Page" (110 : Nat) ({ cls := "StandUpBook$Page", name := "isHidden", desc := "(I)Z" } : Jvm.MethodName)) ∈ pm_tbl := pm_mem 537 (by decide +kernel) rfl
theorem kw_539 : (Jvm.Cond.instanceMethod ({ cls := "StandUpBook$Page", name := "isHidden", desc := "(I)Z" } : Jvm.MethodName)) ∈ pm_tbl := pm_mem 539 (by decide +kernel) rfl
theorem kv_15 : (Jvm.Cond.selects "StandUpBook$Page" ({ cls := "StandUpBook$Page", name := "isHidden", desc := "(I)Z" } : Jvm.MethodName) ({ cls := "StandUpBook$Page", name := "isHidden", desc := "(I)Z" } : Jvm.MethodName)) ∈ pm_tbl := pm_mems 15 (by decide +kernel) rfl
theorem kw_636 : (Jvm.Cond.methodLink "StandUpBook$Page" (114 : Nat) ({ cls := "StandUpBook$Page", name := "visibleAt", desc := "(II)I" } : Jvm.MethodName)) ∈ pm_tbl := pm_mem 636 (by decide +kernel) rfl
theorem kw_502 : (Jvm.Cond.instanceMethod ({ cls := "StandUpBook$Page", name := "visibleAt", desc := "(II)I" } : Jvm.MethodName)) ∈ pm_tbl := pm_mem 502 (by decide +kernel) rfl
theorem kw_503 : (Jvm.Cond.selects "StandUpBook$Page" ({ cls := "StandUpBook$Page", name := "visibleAt", desc := "(II)I" } : Jvm.MethodName) ({ cls := "StandUpBook$Page", name := "visibleAt", desc := "(II)I" } : Jvm.MethodName)) ∈ pm_tbl := pm_mem 503 (by decide +kernel) rfl
theorem kw_649 : (Jvm.Cond.methodLink "StandUpBook$Page" (120 : Nat) ({ cls := "StandUpBook$Page", name := "reaches", desc := "(I)I" } : Jvm.MethodName)) ∈ pm_tbl := pm_mem 649 (by decide +kernel) rfl
theorem kw_588 : (Jvm.Cond.instanceMethod ({ cls := "StandUpBook$Page", name := "reaches", desc := "(I)I" } : Jvm.MethodName)) ∈ pm_tbl := pm_mem 588 (by decide +kernel) rfl
theorem kw_589 : (Jvm.Cond.selects "StandUpBook$Page" ({ cls := "StandUpBook$Page", name := "reaches", desc := "(I)I" } : Jvm.MethodName) ({ cls := "StandUpBook$Page", name := "reaches", desc := "(I)I" } : Jvm.MethodName)) ∈ pm_tbl := pm_mem 589 (by decide +kernel) rfl
theorem kw_645 : (Jvm.Cond.methodLink "StandUpBook$Page" (123 : Nat) ({ cls := "StandUpBook$Page", name := "reachesInAll", desc := "(I)I" } : Jvm.MethodName)) ∈ pm_tbl := pm_mem 645 (by decide +kernel) rfl
theorem kw_647 : (Jvm.Cond.instanceMethod ({ cls := "StandUpBook$Page", name := "reachesInAll", desc := "(I)I" } : Jvm.MethodName)) ∈ pm_tbl := pm_mem 647 (by decide +kernel) rfl
theorem kv_18 : (Jvm.Cond.selects "StandUpBook$Page" ({ cls := "StandUpBook$Page", name := "reachesInAll", desc := "(I)I" } : Jvm.MethodName) ({ cls := "StandUpBook$Page", name := "reachesInAll", desc := "(I)I" } : Jvm.MethodName)) ∈ pm_tbl := pm_mems 18 (by decide +kernel) rfl
theorem kw_845 : (Jvm.Cond.methodLink "StandUpBook$Page" (126 : Nat) ({ cls := "StandUpBook$Piece", name := "mixedInto", desc := "(J)J" } : Jvm.MethodName)) ∈ pm_tbl := pm_mem 845 (by decide +kernel) rfl
theorem kw_846 : (Jvm.Cond.instanceMethod ({ cls := "StandUpBook$Piece", name := "mixedInto", desc := "(J)J" } : Jvm.MethodName)) ∈ pm_tbl := pm_mem 846 (by decide +kernel) rfl
theorem kw_847 : (Jvm.Cond.selects "StandUpBook$Piece" ({ cls := "StandUpBook$Piece", name := "mixedInto", desc := "(J)J" } : Jvm.MethodName) ({ cls := "StandUpBook$Piece", name := "mixedInto", desc := "(J)J" } : Jvm.MethodName)) ∈ pm_tbl := pm_mem 847 (by decide +kernel) rfl
theorem kw_838 : (Jvm.Cond.static ({ cls := "StandUpBook", name := "mixed", desc := "(JJ)J" } : Jvm.MethodName)) ∈ pm_tbl := pm_mem 838 (by decide +kernel) rfl
theorem kw_132 : (Jvm.Cond.instanceMethod ({ cls := "StandUpBook$Page", name := "<init>", desc := "([LStandUpBook$Vee;)V" } : Jvm.MethodName)) ∈ pm_tbl := pm_mem 132 (by decide +kernel) rfl
theorem kw_131 : (Jvm.Cond.methodLink "StandUpBook$Spread" (35 : Nat) ({ cls := "StandUpBook$Page", name := "<init>", desc := "([LStandUpBook$Vee;)V" } : Jvm.MethodName)) ∈ pm_tbl := pm_mem 131 (by decide +kernel) rfl
theorem kw_296 : (Jvm.Cond.methodLink "StandUpBook$Spread" (42 : Nat) ({ cls := "StandUpBook$Page", name := "startAnew", desc := "(I)V" } : Jvm.MethodName)) ∈ pm_tbl := pm_mem 296 (by decide +kernel) rfl
theorem kw_297 : (Jvm.Cond.instanceMethod ({ cls := "StandUpBook$Page", name := "startAnew", desc := "(I)V" } : Jvm.MethodName)) ∈ pm_tbl := pm_mem 297 (by decide +kernel) rfl
theorem kw_298 : (Jvm.Cond.selects "StandUpBook$Page" ({ cls := "StandUpBook$Page", name := "startAnew", desc := "(I)V" } : Jvm.MethodName) ({ cls := "StandUpBook$Page", name := "startAnew", desc := "(I)V" } : Jvm.MethodName)) ∈ pm_tbl := pm_mem 298 (by decide +kernel) rfl
theorem kw_495 : (Jvm.Cond.methodLink "StandUpBook$Spread" (46 : Nat) ({ cls := "StandUpBook$Spread", name := "dropOldest", desc := "()V" } : Jvm.MethodName)) ∈ pm_tbl := pm_mem 495 (by decide +kernel) rfl
theorem kw_497 : (Jvm.Cond.instanceMethod ({ cls := "StandUpBook$Spread", name := "dropOldest", desc := "()V" } : Jvm.MethodName)) ∈ pm_tbl := pm_mem 497 (by decide +kernel) rfl
theorem kv_14 : (Jvm.Cond.selects "StandUpBook$Spread" ({ cls := "StandUpBook$Spread", name := "dropOldest", desc := "()V" } : Jvm.MethodName) ({ cls := "StandUpBook$Spread", name := "dropOldest", desc := "()V" } : Jvm.MethodName)) ∈ pm_tbl := pm_mems 14 (by decide +kernel) rfl
theorem kw_499 : (Jvm.Cond.methodLink "StandUpBook$Spread" (49 : Nat) ({ cls := "StandUpBook$Page", name := "copyFrom", desc := "(LStandUpBook$Page;)V" } : Jvm.MethodName)) ∈ pm_tbl := pm_mem 499 (by decide +kernel) rfl
theorem kw_473 : (Jvm.Cond.instanceMethod ({ cls := "StandUpBook$Page", name := "copyFrom", desc := "(LStandUpBook$Page;)V" } : Jvm.MethodName)) ∈ pm_tbl := pm_mem 473 (by decide +kernel) rfl
theorem kw_474 : (Jvm.Cond.selects "StandUpBook$Page" ({ cls := "StandUpBook$Page", name := "copyFrom", desc := "(LStandUpBook$Page;)V" } : Jvm.MethodName) ({ cls := "StandUpBook$Page", name := "copyFrom", desc := "(LStandUpBook$Page;)V" } : Jvm.MethodName)) ∈ pm_tbl := pm_mem 474 (by decide +kernel) rfl
theorem kw_96 : (Jvm.Cond.instanceMethod ({ cls := "StandUpBook$Box", name := "<init>", desc := "()V" } : Jvm.MethodName)) ∈ pm_tbl := pm_mem 96 (by decide +kernel) rfl
theorem kw_527 : (Jvm.Cond.methodLink "StandUpBook$Stage" (7 : Nat) ({ cls := "StandUpBook$Box", name := "riseOf", desc := "(III)I" } : Jvm.MethodName)) ∈ pm_tbl := pm_mem 527 (by decide +kernel) rfl
theorem kw_1364 : (Jvm.Cond.sameMethod "StandUpBook$Box" "StandUpBook$Box" "riseOf" "(III)I") ∈ pm_tbl := pm_mem 1364 (by decide +kernel) rfl
theorem kw_113 : (Jvm.Cond.superclass "StandUpBook$Stage" "StandUpBook$Box") ∈ pm_tbl := pm_mem 113 (by decide +kernel) rfl
theorem kw_329 : (Jvm.Cond.methodLink "StandUpBook$Stage" (11 : Nat) ({ cls := "StandUpBook$Box", name := "bearing", desc := "()I" } : Jvm.MethodName)) ∈ pm_tbl := pm_mem 329 (by decide +kernel) rfl
theorem kw_1363 : (Jvm.Cond.sameMethod "StandUpBook$Box" "StandUpBook$Box" "bearing" "()I") ∈ pm_tbl := pm_mem 1363 (by decide +kernel) rfl
theorem kw_531 : (Jvm.Cond.methodLink "StandUpBook$Tent" (9 : Nat) ({ cls := "StandUpBook$Vee", name := "riseOf", desc := "(III)I" } : Jvm.MethodName)) ∈ pm_tbl := pm_mem 531 (by decide +kernel) rfl
theorem kw_92 : (Jvm.Cond.superclass "StandUpBook$Tent" "StandUpBook$Vee") ∈ pm_tbl := pm_mem 92 (by decide +kernel) rfl
theorem kw_358 : (Jvm.Cond.methodLink "StandUpBook$Text" (34 : Nat) ({ cls := "StandUpBook$Text", name := "step", desc := "()V" } : Jvm.MethodName)) ∈ pm_tbl := pm_mem 358 (by decide +kernel) rfl
theorem kw_360 : (Jvm.Cond.instanceMethod ({ cls := "StandUpBook$Text", name := "step", desc := "()V" } : Jvm.MethodName)) ∈ pm_tbl := pm_mem 360 (by decide +kernel) rfl
theorem kv_2 : (Jvm.Cond.selects "StandUpBook$Text" ({ cls := "StandUpBook$Text", name := "step", desc := "()V" } : Jvm.MethodName) ({ cls := "StandUpBook$Text", name := "step", desc := "()V" } : Jvm.MethodName)) ∈ pm_tbl := pm_mems 2 (by decide +kernel) rfl
theorem kw_374 : (Jvm.Cond.methodLink "StandUpBook$Text" (37 : Nat) ({ cls := "StandUpBook$Text", name := "tellBook", desc := "(LStandUpBook$Page;)V" } : Jvm.MethodName)) ∈ pm_tbl := pm_mem 374 (by decide +kernel) rfl
theorem kw_376 : (Jvm.Cond.instanceMethod ({ cls := "StandUpBook$Text", name := "tellBook", desc := "(LStandUpBook$Page;)V" } : Jvm.MethodName)) ∈ pm_tbl := pm_mem 376 (by decide +kernel) rfl
theorem kv_6 : (Jvm.Cond.selects "StandUpBook$Text" ({ cls := "StandUpBook$Text", name := "tellBook", desc := "(LStandUpBook$Page;)V" } : Jvm.MethodName) ({ cls := "StandUpBook$Text", name := "tellBook", desc := "(LStandUpBook$Page;)V" } : Jvm.MethodName)) ∈ pm_tbl := pm_mems 6 (by decide +kernel) rfl
theorem kw_379 : (Jvm.Cond.methodLink "StandUpBook$Text" (43 : Nat) ({ cls := "StandUpBook$Text", name := "isWord", desc := "(Ljava/lang/String;)Z" } : Jvm.MethodName)) ∈ pm_tbl := pm_mem 379 (by decide +kernel) rfl
theorem kw_381 : (Jvm.Cond.instanceMethod ({ cls := "StandUpBook$Text", name := "isWord", desc := "(Ljava/lang/String;)Z" } : Jvm.MethodName)) ∈ pm_tbl := pm_mem 381 (by decide +kernel) rfl
theorem kv_7 : (Jvm.Cond.selects "StandUpBook$Text" ({ cls := "StandUpBook$Text", name := "isWord", desc := "(Ljava/lang/String;)Z" } : Jvm.MethodName) ({ cls := "StandUpBook$Text", name := "isWord", desc := "(Ljava/lang/String;)Z" } : Jvm.MethodName)) ∈ pm_tbl := pm_mems 7 (by decide +kernel) rfl
theorem kw_441 : (Jvm.Cond.methodLink "StandUpBook$Text" (47 : Nat) ({ cls := "StandUpBook$Page", name := "isFull", desc := "()Z" } : Jvm.MethodName)) ∈ pm_tbl := pm_mem 441 (by decide +kernel) rfl
theorem kw_442 : (Jvm.Cond.methodLink "StandUpBook$Text" (53 : Nat) ({ cls := "StandUpBook$Text", name := "tellPiece", desc := "(LStandUpBook$Page;Z)V" } : Jvm.MethodName)) ∈ pm_tbl := pm_mem 442 (by decide +kernel) rfl
theorem kw_444 : (Jvm.Cond.instanceMethod ({ cls := "StandUpBook$Text", name := "tellPiece", desc := "(LStandUpBook$Page;Z)V" } : Jvm.MethodName)) ∈ pm_tbl := pm_mem 444 (by decide +kernel) rfl
theorem kv_10 : (Jvm.Cond.selects "StandUpBook$Text" ({ cls := "StandUpBook$Text", name := "tellPiece", desc := "(LStandUpBook$Page;Z)V" } : Jvm.MethodName) ({ cls := "StandUpBook$Text", name := "tellPiece", desc := "(LStandUpBook$Page;Z)V" } : Jvm.MethodName)) ∈ pm_tbl := pm_mems 10 (by decide +kernel) rfl
theorem kw_449 : (Jvm.Cond.methodLink "StandUpBook$Text" (61 : Nat) ({ cls := "StandUpBook$Text", name := "tellOpen", desc := "(LStandUpBook$Page;)V" } : Jvm.MethodName)) ∈ pm_tbl := pm_mem 449 (by decide +kernel) rfl
theorem kw_451 : (Jvm.Cond.instanceMethod ({ cls := "StandUpBook$Text", name := "tellOpen", desc := "(LStandUpBook$Page;)V" } : Jvm.MethodName)) ∈ pm_tbl := pm_mem 451 (by decide +kernel) rfl
theorem kv_11 : (Jvm.Cond.selects "StandUpBook$Text" ({ cls := "StandUpBook$Text", name := "tellOpen", desc := "(LStandUpBook$Page;)V" } : Jvm.MethodName) ({ cls := "StandUpBook$Text", name := "tellOpen", desc := "(LStandUpBook$Page;)V" } : Jvm.MethodName)) ∈ pm_tbl := pm_mems 11 (by decide +kernel) rfl
theorem kw_468 : (Jvm.Cond.methodLink "StandUpBook$Text" (66 : Nat) ({ cls := "StandUpBook$Text", name := "tellPull", desc := "(LStandUpBook$Page;)V" } : Jvm.MethodName)) ∈ pm_tbl := pm_mem 468 (by decide +kernel) rfl
theorem kw_470 : (Jvm.Cond.instanceMethod ({ cls := "StandUpBook$Text", name := "tellPull", desc := "(LStandUpBook$Page;)V" } : Jvm.MethodName)) ∈ pm_tbl := pm_mem 470 (by decide +kernel) rfl
theorem kv_12 : (Jvm.Cond.selects "StandUpBook$Text" ({ cls := "StandUpBook$Text", name := "tellPull", desc := "(LStandUpBook$Page;)V" } : Jvm.MethodName) ({ cls := "StandUpBook$Text", name := "tellPull", desc := "(LStandUpBook$Page;)V" } : Jvm.MethodName)) ∈ pm_tbl := pm_mems 12 (by decide +kernel) rfl
theorem kw_431 : (Jvm.Cond.methodLink "StandUpBook$Text" (71 : Nat) ({ cls := "StandUpBook$Text", name := "number", desc := "(II)I" } : Jvm.MethodName)) ∈ pm_tbl := pm_mem 431 (by decide +kernel) rfl
theorem kw_433 : (Jvm.Cond.instanceMethod ({ cls := "StandUpBook$Text", name := "number", desc := "(II)I" } : Jvm.MethodName)) ∈ pm_tbl := pm_mem 433 (by decide +kernel) rfl
theorem kv_8 : (Jvm.Cond.selects "StandUpBook$Text" ({ cls := "StandUpBook$Text", name := "number", desc := "(II)I" } : Jvm.MethodName) ({ cls := "StandUpBook$Text", name := "number", desc := "(II)I" } : Jvm.MethodName)) ∈ pm_tbl := pm_mems 8 (by decide +kernel) rfl
theorem kw_435 : (Jvm.Cond.methodLink "StandUpBook$Text" (75 : Nat) ({ cls := "StandUpBook$Text", name := "endItem", desc := "()V" } : Jvm.MethodName)) ∈ pm_tbl := pm_mem 435 (by decide +kernel) rfl
theorem kw_437 : (Jvm.Cond.instanceMethod ({ cls := "StandUpBook$Text", name := "endItem", desc := "()V" } : Jvm.MethodName)) ∈ pm_tbl := pm_mem 437 (by decide +kernel) rfl
theorem kv_9 : (Jvm.Cond.selects "StandUpBook$Text" ({ cls := "StandUpBook$Text", name := "endItem", desc := "()V" } : Jvm.MethodName) ({ cls := "StandUpBook$Text", name := "endItem", desc := "()V" } : Jvm.MethodName)) ∈ pm_tbl := pm_mems 9 (by decide +kernel) rfl
theorem kw_439 : (Jvm.Cond.methodLink "StandUpBook$Text" (78 : Nat) ({ cls := "StandUpBook$Page", name := "startAnew", desc := "(I)V" } : Jvm.MethodName)) ∈ pm_tbl := pm_mem 439 (by decide +kernel) rfl
theorem kw_446 : (Jvm.Cond.methodLink "StandUpBook$Text" (85 : Nat) ({ cls := "StandUpBook$Page", name := "glue", desc := "(IIIII)I" } : Jvm.MethodName)) ∈ pm_tbl := pm_mem 446 (by decide +kernel) rfl
theorem kw_313 : (Jvm.Cond.instanceMethod ({ cls := "StandUpBook$Page", name := "glue", desc := "(IIIII)I" } : Jvm.MethodName)) ∈ pm_tbl := pm_mem 313 (by decide +kernel) rfl
theorem kw_314 : (Jvm.Cond.selects "StandUpBook$Page" ({ cls := "StandUpBook$Page", name := "glue", desc := "(IIIII)I" } : Jvm.MethodName) ({ cls := "StandUpBook$Page", name := "glue", desc := "(IIIII)I" } : Jvm.MethodName)) ∈ pm_tbl := pm_mem 314 (by decide +kernel) rfl
theorem kw_453 : (Jvm.Cond.methodLink "StandUpBook$Text" (89 : Nat) ({ cls := "StandUpBook$Page", name := "openTo", desc := "(I)V" } : Jvm.MethodName)) ∈ pm_tbl := pm_mem 453 (by decide +kernel) rfl
theorem kw_454 : (Jvm.Cond.instanceMethod ({ cls := "StandUpBook$Page", name := "openTo", desc := "(I)V" } : Jvm.MethodName)) ∈ pm_tbl := pm_mem 454 (by decide +kernel) rfl
theorem kw_455 : (Jvm.Cond.selects "StandUpBook$Page" ({ cls := "StandUpBook$Page", name := "openTo", desc := "(I)V" } : Jvm.MethodName) ({ cls := "StandUpBook$Page", name := "openTo", desc := "(I)V" } : Jvm.MethodName)) ∈ pm_tbl := pm_mem 455 (by decide +kernel) rfl
theorem kw_362 : (Jvm.Cond.methodLink "StandUpBook$Text" (110 : Nat) ({ cls := "StandUpBook$Text", name := "isLetter", desc := "(I)Z" } : Jvm.MethodName)) ∈ pm_tbl := pm_mem 362 (by decide +kernel) rfl
theorem kw_364 : (Jvm.Cond.instanceMethod ({ cls := "StandUpBook$Text", name := "isLetter", desc := "(I)Z" } : Jvm.MethodName)) ∈ pm_tbl := pm_mem 364 (by decide +kernel) rfl
theorem kv_3 : (Jvm.Cond.selects "StandUpBook$Text" ({ cls := "StandUpBook$Text", name := "isLetter", desc := "(I)Z" } : Jvm.MethodName) ({ cls := "StandUpBook$Text", name := "isLetter", desc := "(I)Z" } : Jvm.MethodName)) ∈ pm_tbl := pm_mems 3 (by decide +kernel) rfl
theorem kw_366 : (Jvm.Cond.methodLink "StandUpBook$Text" (114 : Nat) ({ cls := "StandUpBook$Text", name := "isFigure", desc := "(I)Z" } : Jvm.MethodName)) ∈ pm_tbl := pm_mem 366 (by decide +kernel) rfl
theorem kw_368 : (Jvm.Cond.instanceMethod ({ cls := "StandUpBook$Text", name := "isFigure", desc := "(I)Z" } : Jvm.MethodName)) ∈ pm_tbl := pm_mem 368 (by decide +kernel) rfl
theorem kv_4 : (Jvm.Cond.selects "StandUpBook$Text" ({ cls := "StandUpBook$Text", name := "isFigure", desc := "(I)Z" } : Jvm.MethodName) ({ cls := "StandUpBook$Text", name := "isFigure", desc := "(I)Z" } : Jvm.MethodName)) ∈ pm_tbl := pm_mems 4 (by decide +kernel) rfl
theorem kw_370 : (Jvm.Cond.methodLink "StandUpBook$Text" (117 : Nat) ({ cls := "StandUpBook$Text", name := "stepOverFigures", desc := "()V" } : Jvm.MethodName)) ∈ pm_tbl := pm_mem 370 (by decide +kernel) rfl
theorem kw_372 : (Jvm.Cond.instanceMethod ({ cls := "StandUpBook$Text", name := "stepOverFigures", desc := "()V" } : Jvm.MethodName)) ∈ pm_tbl := pm_mem 372 (by decide +kernel) rfl
theorem kv_5 : (Jvm.Cond.selects "StandUpBook$Text" ({ cls := "StandUpBook$Text", name := "stepOverFigures", desc := "()V" } : Jvm.MethodName) ({ cls := "StandUpBook$Text", name := "stepOverFigures", desc := "()V" } : Jvm.MethodName)) ∈ pm_tbl := pm_mems 5 (by decide +kernel) rfl
theorem kw_678 : (Jvm.Cond.methodLink "StandUpBook$Walk" (25 : Nat) ({ cls := "StandUpBook$Walk", name := "covers", desc := "(II)Z" } : Jvm.MethodName)) ∈ pm_tbl := pm_mem 678 (by decide +kernel) rfl
theorem kw_670 : (Jvm.Cond.instanceMethod ({ cls := "StandUpBook$Walk", name := "covers", desc := "(II)Z" } : Jvm.MethodName)) ∈ pm_tbl := pm_mem 670 (by decide +kernel) rfl
theorem kw_671 : (Jvm.Cond.selects "StandUpBook$Walk" ({ cls := "StandUpBook$Walk", name := "covers", desc := "(II)Z" } : Jvm.MethodName) ({ cls := "StandUpBook$Walk", name := "covers", desc := "(II)Z" } : Jvm.MethodName)) ∈ pm_tbl := pm_mem 671 (by decide +kernel) rfl
theorem kw_684 : (Jvm.Cond.methodLink "StandUpBook$Walk" (32 : Nat) ({ cls := "StandUpBook$Walk", name := "stepsLeft", desc := "(III)I" } : Jvm.MethodName)) ∈ pm_tbl := pm_mem 684 (by decide +kernel) rfl
theorem kw_675 : (Jvm.Cond.instanceMethod ({ cls := "StandUpBook$Walk", name := "stepsLeft", desc := "(III)I" } : Jvm.MethodName)) ∈ pm_tbl := pm_mem 675 (by decide +kernel) rfl
theorem kw_676 : (Jvm.Cond.selects "StandUpBook$Walk" ({ cls := "StandUpBook$Walk", name := "stepsLeft", desc := "(III)I" } : Jvm.MethodName) ({ cls := "StandUpBook$Walk", name := "stepsLeft", desc := "(III)I" } : Jvm.MethodName)) ∈ pm_tbl := pm_mem 676 (by decide +kernel) rfl
theorem kw_103 : (Jvm.Cond.instanceMethod ({ cls := "StandUpBook$Flap", name := "<init>", desc := "()V" } : Jvm.MethodName)) ∈ pm_tbl := pm_mem 103 (by decide +kernel) rfl
theorem kw_535 : (Jvm.Cond.methodLink "StandUpBook$Wheel" (7 : Nat) ({ cls := "StandUpBook$Flap", name := "riseOf", desc := "(III)I" } : Jvm.MethodName)) ∈ pm_tbl := pm_mem 535 (by decide +kernel) rfl
theorem kw_1365 : (Jvm.Cond.sameMethod "StandUpBook$Flap" "StandUpBook$Flap" "riseOf" "(III)I") ∈ pm_tbl := pm_mem 1365 (by decide +kernel) rfl
theorem kw_120 : (Jvm.Cond.superclass "StandUpBook$Wheel" "StandUpBook$Flap") ∈ pm_tbl := pm_mem 120 (by decide +kernel) rfl
theorem kw_608 : (Jvm.Cond.methodLink "StandUpBook$Wheel" (11 : Nat) ({ cls := "StandUpBook$Flap", name := "reachOf", desc := "(II)I" } : Jvm.MethodName)) ∈ pm_tbl := pm_mem 608 (by decide +kernel) rfl
theorem kw_1366 : (Jvm.Cond.sameMethod "StandUpBook$Flap" "StandUpBook$Flap" "reachOf" "(II)I") ∈ pm_tbl := pm_mem 1366 (by decide +kernel) rfl
theorem kw_334 : (Jvm.Cond.methodLink "StandUpBook$Wheel" (15 : Nat) ({ cls := "StandUpBook$Flap", name := "bearing", desc := "()I" } : Jvm.MethodName)) ∈ pm_tbl := pm_mem 334 (by decide +kernel) rfl
theorem kw_335 : (Jvm.Cond.sameMethod "StandUpBook$Flap" "StandUpBook$Vee" "bearing" "()I") ∈ pm_tbl := pm_mem 335 (by decide +kernel) rfl
theorem kw_34 : (Jvm.Cond.instanceMethod ({ cls := "StandUpBook$Text", name := "<init>", desc := "()V" } : Jvm.MethodName)) ∈ pm_tbl := pm_mem 34 (by decide +kernel) rfl
theorem kw_65 : (Jvm.Cond.instanceMethod ({ cls := "StandUpBook$Walk", name := "<init>", desc := "()V" } : Jvm.MethodName)) ∈ pm_tbl := pm_mem 65 (by decide +kernel) rfl
theorem kw_89 : (Jvm.Cond.instanceMethod ({ cls := "StandUpBook$Tent", name := "<init>", desc := "()V" } : Jvm.MethodName)) ∈ pm_tbl := pm_mem 89 (by decide +kernel) rfl
theorem kw_110 : (Jvm.Cond.instanceMethod ({ cls := "StandUpBook$Stage", name := "<init>", desc := "()V" } : Jvm.MethodName)) ∈ pm_tbl := pm_mem 110 (by decide +kernel) rfl
theorem kw_117 : (Jvm.Cond.instanceMethod ({ cls := "StandUpBook$Wheel", name := "<init>", desc := "()V" } : Jvm.MethodName)) ∈ pm_tbl := pm_mem 117 (by decide +kernel) rfl
theorem kw_123 : (Jvm.Cond.instanceMethod ({ cls := "StandUpBook$Spread", name := "<init>", desc := "([LStandUpBook$Vee;)V" } : Jvm.MethodName)) ∈ pm_tbl := pm_mem 123 (by decide +kernel) rfl
theorem kw_122 : (Jvm.Cond.methodLink "StandUpBook" (75 : Nat) ({ cls := "StandUpBook$Spread", name := "<init>", desc := "([LStandUpBook$Vee;)V" } : Jvm.MethodName)) ∈ pm_tbl := pm_mem 122 (by decide +kernel) rfl
theorem kw_240 : (Jvm.Cond.methodLink "StandUpBook" (84 : Nat) ({ cls := "StandUpBook$Page", name := "<init>", desc := "([LStandUpBook$Vee;)V" } : Jvm.MethodName)) ∈ pm_tbl := pm_mem 240 (by decide +kernel) rfl
theorem kw_286 : (Jvm.Cond.static ({ cls := "StandUpBook", name := "outside", desc := "(III)Z" } : Jvm.MethodName)) ∈ pm_tbl := pm_mem 286 (by decide +kernel) rfl
theorem kw_285 : (Jvm.Cond.methodLink "StandUpBook" (89 : Nat) ({ cls := "StandUpBook", name := "outside", desc := "(III)Z" } : Jvm.MethodName)) ∈ pm_tbl := pm_mem 285 (by decide +kernel) rfl
theorem kw_288 : (Jvm.Cond.methodLink "StandUpBook" (93 : Nat) ({ cls := "StandUpBook", name := "refuseBad", desc := "()I" } : Jvm.MethodName)) ∈ pm_tbl := pm_mem 288 (by decide +kernel) rfl
theorem kw_290 : (Jvm.Cond.instanceMethod ({ cls := "StandUpBook", name := "refuseBad", desc := "()I" } : Jvm.MethodName)) ∈ pm_tbl := pm_mem 290 (by decide +kernel) rfl
theorem kv_0 : (Jvm.Cond.selects "StandUpBook" ({ cls := "StandUpBook", name := "refuseBad", desc := "()I" } : Jvm.MethodName) ({ cls := "StandUpBook", name := "refuseBad", desc := "()I" } : Jvm.MethodName)) ∈ pm_tbl := pm_mems 0 (by decide +kernel) rfl
theorem kw_292 : (Jvm.Cond.methodLink "StandUpBook" (103 : Nat) ({ cls := "StandUpBook$Spread", name := "startAnew", desc := "(I)V" } : Jvm.MethodName)) ∈ pm_tbl := pm_mem 292 (by decide +kernel) rfl
theorem kw_293 : (Jvm.Cond.instanceMethod ({ cls := "StandUpBook$Spread", name := "startAnew", desc := "(I)V" } : Jvm.MethodName)) ∈ pm_tbl := pm_mem 293 (by decide +kernel) rfl
theorem kw_294 : (Jvm.Cond.selects "StandUpBook$Spread" ({ cls := "StandUpBook$Spread", name := "startAnew", desc := "(I)V" } : Jvm.MethodName) ({ cls := "StandUpBook$Spread", name := "startAnew", desc := "(I)V" } : Jvm.MethodName)) ∈ pm_tbl := pm_mem 294 (by decide +kernel) rfl
theorem kw_304 : (Jvm.Cond.methodLink "StandUpBook" (107 : Nat) ({ cls := "StandUpBook$Page", name := "isFull", desc := "()Z" } : Jvm.MethodName)) ∈ pm_tbl := pm_mem 304 (by decide +kernel) rfl
theorem kw_308 : (Jvm.Cond.methodLink "StandUpBook" (111 : Nat) ({ cls := "StandUpBook", name := "refuseFull", desc := "()I" } : Jvm.MethodName)) ∈ pm_tbl := pm_mem 308 (by decide +kernel) rfl
theorem kw_310 : (Jvm.Cond.instanceMethod ({ cls := "StandUpBook", name := "refuseFull", desc := "()I" } : Jvm.MethodName)) ∈ pm_tbl := pm_mem 310 (by decide +kernel) rfl
theorem kv_1 : (Jvm.Cond.selects "StandUpBook" ({ cls := "StandUpBook", name := "refuseFull", desc := "()I" } : Jvm.MethodName) ({ cls := "StandUpBook", name := "refuseFull", desc := "()I" } : Jvm.MethodName)) ∈ pm_tbl := pm_mems 1 (by decide +kernel) rfl
theorem kw_312 : (Jvm.Cond.methodLink "StandUpBook" (117 : Nat) ({ cls := "StandUpBook$Page", name := "glue", desc := "(IIIII)I" } : Jvm.MethodName)) ∈ pm_tbl := pm_mem 312 (by decide +kernel) rfl
theorem kw_342 : (Jvm.Cond.methodLink "StandUpBook" (124 : Nat) ({ cls := "StandUpBook$Text", name := "append", desc := "(I)V" } : Jvm.MethodName)) ∈ pm_tbl := pm_mem 342 (by decide +kernel) rfl
theorem kw_343 : (Jvm.Cond.instanceMethod ({ cls := "StandUpBook$Text", name := "append", desc := "(I)V" } : Jvm.MethodName)) ∈ pm_tbl := pm_mem 343 (by decide +kernel) rfl
theorem kw_344 : (Jvm.Cond.selects "StandUpBook$Text" ({ cls := "StandUpBook$Text", name := "append", desc := "(I)V" } : Jvm.MethodName) ({ cls := "StandUpBook$Text", name := "append", desc := "(I)V" } : Jvm.MethodName)) ∈ pm_tbl := pm_mem 344 (by decide +kernel) rfl
theorem kw_354 : (Jvm.Cond.methodLink "StandUpBook" (127 : Nat) ({ cls := "StandUpBook$Text", name := "tellTo", desc := "(LStandUpBook$Page;)I" } : Jvm.MethodName)) ∈ pm_tbl := pm_mem 354 (by decide +kernel) rfl
theorem kw_355 : (Jvm.Cond.instanceMethod ({ cls := "StandUpBook$Text", name := "tellTo", desc := "(LStandUpBook$Page;)I" } : Jvm.MethodName)) ∈ pm_tbl := pm_mem 355 (by decide +kernel) rfl
theorem kw_356 : (Jvm.Cond.selects "StandUpBook$Text" ({ cls := "StandUpBook$Text", name := "tellTo", desc := "(LStandUpBook$Page;)I" } : Jvm.MethodName) ({ cls := "StandUpBook$Text", name := "tellTo", desc := "(LStandUpBook$Page;)I" } : Jvm.MethodName)) ∈ pm_tbl := pm_mem 356 (by decide +kernel) rfl
theorem kw_472 : (Jvm.Cond.methodLink "StandUpBook" (134 : Nat) ({ cls := "StandUpBook$Page", name := "copyFrom", desc := "(LStandUpBook$Page;)V" } : Jvm.MethodName)) ∈ pm_tbl := pm_mem 472 (by decide +kernel) rfl
theorem kw_485 : (Jvm.Cond.static ({ cls := "StandUpBook", name := "isNoOpening", desc := "(I)Z" } : Jvm.MethodName)) ∈ pm_tbl := pm_mem 485 (by decide +kernel) rfl
theorem kw_484 : (Jvm.Cond.methodLink "StandUpBook" (138 : Nat) ({ cls := "StandUpBook", name := "isNoOpening", desc := "(I)Z" } : Jvm.MethodName)) ∈ pm_tbl := pm_mem 484 (by decide +kernel) rfl
theorem kw_487 : (Jvm.Cond.methodLink "StandUpBook" (145 : Nat) ({ cls := "StandUpBook", name := "refuseNo", desc := "()I" } : Jvm.MethodName)) ∈ pm_tbl := pm_mem 487 (by decide +kernel) rfl
theorem kw_489 : (Jvm.Cond.instanceMethod ({ cls := "StandUpBook", name := "refuseNo", desc := "()I" } : Jvm.MethodName)) ∈ pm_tbl := pm_mem 489 (by decide +kernel) rfl
theorem kv_13 : (Jvm.Cond.selects "StandUpBook" ({ cls := "StandUpBook", name := "refuseNo", desc := "()I" } : Jvm.MethodName) ({ cls := "StandUpBook", name := "refuseNo", desc := "()I" } : Jvm.MethodName)) ∈ pm_tbl := pm_mems 13 (by decide +kernel) rfl
theorem kw_491 : (Jvm.Cond.methodLink "StandUpBook" (148 : Nat) ({ cls := "StandUpBook$Spread", name := "remember", desc := "()V" } : Jvm.MethodName)) ∈ pm_tbl := pm_mem 491 (by decide +kernel) rfl
theorem kw_492 : (Jvm.Cond.instanceMethod ({ cls := "StandUpBook$Spread", name := "remember", desc := "()V" } : Jvm.MethodName)) ∈ pm_tbl := pm_mem 492 (by decide +kernel) rfl
theorem kw_493 : (Jvm.Cond.selects "StandUpBook$Spread" ({ cls := "StandUpBook$Spread", name := "remember", desc := "()V" } : Jvm.MethodName) ({ cls := "StandUpBook$Spread", name := "remember", desc := "()V" } : Jvm.MethodName)) ∈ pm_tbl := pm_mem 493 (by decide +kernel) rfl
theorem kw_500 : (Jvm.Cond.methodLink "StandUpBook" (151 : Nat) ({ cls := "StandUpBook$Page", name := "openTo", desc := "(I)V" } : Jvm.MethodName)) ∈ pm_tbl := pm_mem 500 (by decide +kernel) rfl
theorem kw_501 : (Jvm.Cond.methodLink "StandUpBook" (154 : Nat) ({ cls := "StandUpBook$Page", name := "visibleAt", desc := "(II)I" } : Jvm.MethodName)) ∈ pm_tbl := pm_mem 501 (by decide +kernel) rfl
theorem kw_545 : (Jvm.Cond.methodLink "StandUpBook" (158 : Nat) ({ cls := "StandUpBook", name := "isNoPiece", desc := "(I)Z" } : Jvm.MethodName)) ∈ pm_tbl := pm_mem 545 (by decide +kernel) rfl
theorem kw_547 : (Jvm.Cond.instanceMethod ({ cls := "StandUpBook", name := "isNoPiece", desc := "(I)Z" } : Jvm.MethodName)) ∈ pm_tbl := pm_mem 547 (by decide +kernel) rfl
theorem kv_16 : (Jvm.Cond.selects "StandUpBook" ({ cls := "StandUpBook", name := "isNoPiece", desc := "(I)Z" } : Jvm.MethodName) ({ cls := "StandUpBook", name := "isNoPiece", desc := "(I)Z" } : Jvm.MethodName)) ∈ pm_tbl := pm_mems 16 (by decide +kernel) rfl
theorem kw_553 : (Jvm.Cond.methodLink "StandUpBook" (176 : Nat) ({ cls := "StandUpBook$Page", name := "tearOut", desc := "(I)I" } : Jvm.MethodName)) ∈ pm_tbl := pm_mem 553 (by decide +kernel) rfl
theorem kw_554 : (Jvm.Cond.instanceMethod ({ cls := "StandUpBook$Page", name := "tearOut", desc := "(I)I" } : Jvm.MethodName)) ∈ pm_tbl := pm_mem 554 (by decide +kernel) rfl
theorem kw_555 : (Jvm.Cond.selects "StandUpBook$Page" ({ cls := "StandUpBook$Page", name := "tearOut", desc := "(I)I" } : Jvm.MethodName) ({ cls := "StandUpBook$Page", name := "tearOut", desc := "(I)I" } : Jvm.MethodName)) ∈ pm_tbl := pm_mem 555 (by decide +kernel) rfl
theorem kw_570 : (Jvm.Cond.methodLink "StandUpBook" (180 : Nat) ({ cls := "StandUpBook$Spread", name := "stepBack", desc := "()V" } : Jvm.MethodName)) ∈ pm_tbl := pm_mem 570 (by decide +kernel) rfl
theorem kw_571 : (Jvm.Cond.instanceMethod ({ cls := "StandUpBook$Spread", name := "stepBack", desc := "()V" } : Jvm.MethodName)) ∈ pm_tbl := pm_mem 571 (by decide +kernel) rfl
theorem kw_572 : (Jvm.Cond.selects "StandUpBook$Spread" ({ cls := "StandUpBook$Spread", name := "stepBack", desc := "()V" } : Jvm.MethodName) ({ cls := "StandUpBook$Spread", name := "stepBack", desc := "()V" } : Jvm.MethodName)) ∈ pm_tbl := pm_mem 572 (by decide +kernel) rfl
theorem kw_578 : (Jvm.Cond.methodLink "StandUpBook" (201 : Nat) ({ cls := "StandUpBook$Piece", name := "isStuck", desc := "()Z" } : Jvm.MethodName)) ∈ pm_tbl := pm_mem 578 (by decide +kernel) rfl
theorem kw_583 : (Jvm.Cond.methodLink "StandUpBook" (204 : Nat) ({ cls := "StandUpBook$Page", name := "rises", desc := "(II)I" } : Jvm.MethodName)) ∈ pm_tbl := pm_mem 583 (by decide +kernel) rfl
theorem kw_584 : (Jvm.Cond.instanceMethod ({ cls := "StandUpBook$Page", name := "rises", desc := "(II)I" } : Jvm.MethodName)) ∈ pm_tbl := pm_mem 584 (by decide +kernel) rfl
theorem kw_585 : (Jvm.Cond.selects "StandUpBook$Page" ({ cls := "StandUpBook$Page", name := "rises", desc := "(II)I" } : Jvm.MethodName) ({ cls := "StandUpBook$Page", name := "rises", desc := "(II)I" } : Jvm.MethodName)) ∈ pm_tbl := pm_mem 585 (by decide +kernel) rfl
theorem kw_587 : (Jvm.Cond.methodLink "StandUpBook" (207 : Nat) ({ cls := "StandUpBook$Page", name := "reaches", desc := "(I)I" } : Jvm.MethodName)) ∈ pm_tbl := pm_mem 587 (by decide +kernel) rfl
theorem kw_614 : (Jvm.Cond.methodLink "StandUpBook" (213 : Nat) ({ cls := "StandUpBook$Page", name := "measure", desc := "(II)V" } : Jvm.MethodName)) ∈ pm_tbl := pm_mem 614 (by decide +kernel) rfl
theorem kw_623 : (Jvm.Cond.methodLink "StandUpBook" (220 : Nat) ({ cls := "StandUpBook", name := "openingsThatShow", desc := "(I)I" } : Jvm.MethodName)) ∈ pm_tbl := pm_mem 623 (by decide +kernel) rfl
theorem kw_625 : (Jvm.Cond.instanceMethod ({ cls := "StandUpBook", name := "openingsThatShow", desc := "(I)I" } : Jvm.MethodName)) ∈ pm_tbl := pm_mem 625 (by decide +kernel) rfl
theorem kv_17 : (Jvm.Cond.selects "StandUpBook" ({ cls := "StandUpBook", name := "openingsThatShow", desc := "(I)I" } : Jvm.MethodName) ({ cls := "StandUpBook", name := "openingsThatShow", desc := "(I)I" } : Jvm.MethodName)) ∈ pm_tbl := pm_mems 17 (by decide +kernel) rfl
theorem kw_627 : (Jvm.Cond.methodLink "StandUpBook" (223 : Nat) ({ cls := "StandUpBook", name := "has", desc := "(II)Z" } : Jvm.MethodName)) ∈ pm_tbl := pm_mem 627 (by decide +kernel) rfl
theorem kw_632 : (Jvm.Cond.methodLink "StandUpBook" (227 : Nat) ({ cls := "StandUpBook$Page", name := "visibleMany", desc := "(I)I" } : Jvm.MethodName)) ∈ pm_tbl := pm_mem 632 (by decide +kernel) rfl
theorem kw_633 : (Jvm.Cond.instanceMethod ({ cls := "StandUpBook$Page", name := "visibleMany", desc := "(I)I" } : Jvm.MethodName)) ∈ pm_tbl := pm_mem 633 (by decide +kernel) rfl
theorem kw_634 : (Jvm.Cond.selects "StandUpBook$Page" ({ cls := "StandUpBook$Page", name := "visibleMany", desc := "(I)I" } : Jvm.MethodName) ({ cls := "StandUpBook$Page", name := "visibleMany", desc := "(I)I" } : Jvm.MethodName)) ∈ pm_tbl := pm_mem 634 (by decide +kernel) rfl
theorem kw_641 : (Jvm.Cond.methodLink "StandUpBook" (230 : Nat) ({ cls := "StandUpBook$Page", name := "sticksOut", desc := "()I" } : Jvm.MethodName)) ∈ pm_tbl := pm_mem 641 (by decide +kernel) rfl
theorem kw_642 : (Jvm.Cond.instanceMethod ({ cls := "StandUpBook$Page", name := "sticksOut", desc := "()I" } : Jvm.MethodName)) ∈ pm_tbl := pm_mem 642 (by decide +kernel) rfl
theorem kw_643 : (Jvm.Cond.selects "StandUpBook$Page" ({ cls := "StandUpBook$Page", name := "sticksOut", desc := "()I" } : Jvm.MethodName) ({ cls := "StandUpBook$Page", name := "sticksOut", desc := "()I" } : Jvm.MethodName)) ∈ pm_tbl := pm_mem 643 (by decide +kernel) rfl
theorem kw_650 : (Jvm.Cond.methodLink "StandUpBook" (233 : Nat) ({ cls := "StandUpBook$Page", name := "leastWide", desc := "()I" } : Jvm.MethodName)) ∈ pm_tbl := pm_mem 650 (by decide +kernel) rfl
theorem kw_651 : (Jvm.Cond.instanceMethod ({ cls := "StandUpBook$Page", name := "leastWide", desc := "()I" } : Jvm.MethodName)) ∈ pm_tbl := pm_mem 651 (by decide +kernel) rfl
theorem kw_652 : (Jvm.Cond.selects "StandUpBook$Page" ({ cls := "StandUpBook$Page", name := "leastWide", desc := "()I" } : Jvm.MethodName) ({ cls := "StandUpBook$Page", name := "leastWide", desc := "()I" } : Jvm.MethodName)) ∈ pm_tbl := pm_mem 652 (by decide +kernel) rfl
theorem kw_661 : (Jvm.Cond.methodLink "StandUpBook" (236 : Nat) ({ cls := "StandUpBook", name := "areNoPieces", desc := "(I)Z" } : Jvm.MethodName)) ∈ pm_tbl := pm_mem 661 (by decide +kernel) rfl
theorem kw_663 : (Jvm.Cond.instanceMethod ({ cls := "StandUpBook", name := "areNoPieces", desc := "(I)Z" } : Jvm.MethodName)) ∈ pm_tbl := pm_mem 663 (by decide +kernel) rfl
theorem kv_19 : (Jvm.Cond.selects "StandUpBook" ({ cls := "StandUpBook", name := "areNoPieces", desc := "(I)Z" } : Jvm.MethodName) ({ cls := "StandUpBook", name := "areNoPieces", desc := "(I)Z" } : Jvm.MethodName)) ∈ pm_tbl := pm_mems 19 (by decide +kernel) rfl
theorem kw_665 : (Jvm.Cond.methodLink "StandUpBook" (239 : Nat) ({ cls := "StandUpBook", name := "refuseBadElsewhere", desc := "()I" } : Jvm.MethodName)) ∈ pm_tbl := pm_mem 665 (by decide +kernel) rfl
theorem kw_667 : (Jvm.Cond.instanceMethod ({ cls := "StandUpBook", name := "refuseBadElsewhere", desc := "()I" } : Jvm.MethodName)) ∈ pm_tbl := pm_mem 667 (by decide +kernel) rfl
theorem kv_20 : (Jvm.Cond.selects "StandUpBook" ({ cls := "StandUpBook", name := "refuseBadElsewhere", desc := "()I" } : Jvm.MethodName) ({ cls := "StandUpBook", name := "refuseBadElsewhere", desc := "()I" } : Jvm.MethodName)) ∈ pm_tbl := pm_mems 20 (by decide +kernel) rfl
theorem kw_669 : (Jvm.Cond.methodLink "StandUpBook" (248 : Nat) ({ cls := "StandUpBook$Walk", name := "covers", desc := "(II)Z" } : Jvm.MethodName)) ∈ pm_tbl := pm_mem 669 (by decide +kernel) rfl
theorem kw_674 : (Jvm.Cond.methodLink "StandUpBook" (251 : Nat) ({ cls := "StandUpBook$Walk", name := "stepsLeft", desc := "(III)I" } : Jvm.MethodName)) ∈ pm_tbl := pm_mem 674 (by decide +kernel) rfl
theorem kw_680 : (Jvm.Cond.methodLink "StandUpBook" (255 : Nat) ({ cls := "StandUpBook$Walk", name := "openingAfter", desc := "(II)I" } : Jvm.MethodName)) ∈ pm_tbl := pm_mem 680 (by decide +kernel) rfl
theorem kw_681 : (Jvm.Cond.instanceMethod ({ cls := "StandUpBook$Walk", name := "openingAfter", desc := "(II)I" } : Jvm.MethodName)) ∈ pm_tbl := pm_mem 681 (by decide +kernel) rfl
theorem kw_682 : (Jvm.Cond.selects "StandUpBook$Walk" ({ cls := "StandUpBook$Walk", name := "openingAfter", desc := "(II)I" } : Jvm.MethodName) ({ cls := "StandUpBook$Walk", name := "openingAfter", desc := "(II)I" } : Jvm.MethodName)) ∈ pm_tbl := pm_mem 682 (by decide +kernel) rfl
theorem kw_693 : (Jvm.Cond.methodLink "StandUpBook" (258 : Nat) ({ cls := "StandUpBook$Page", name := "sticksWith", desc := "(I)Z" } : Jvm.MethodName)) ∈ pm_tbl := pm_mem 693 (by decide +kernel) rfl
theorem kw_694 : (Jvm.Cond.instanceMethod ({ cls := "StandUpBook$Page", name := "sticksWith", desc := "(I)Z" } : Jvm.MethodName)) ∈ pm_tbl := pm_mem 694 (by decide +kernel) rfl
theorem kw_695 : (Jvm.Cond.selects "StandUpBook$Page" ({ cls := "StandUpBook$Page", name := "sticksWith", desc := "(I)Z" } : Jvm.MethodName) ({ cls := "StandUpBook$Page", name := "sticksWith", desc := "(I)Z" } : Jvm.MethodName)) ∈ pm_tbl := pm_mem 695 (by decide +kernel) rfl
theorem kw_702 : (Jvm.Cond.static ({ cls := "StandUpBook", name := "winningStep", desc := "(IIII)I" } : Jvm.MethodName)) ∈ pm_tbl := pm_mem 702 (by decide +kernel) rfl
theorem kw_701 : (Jvm.Cond.methodLink "StandUpBook" (261 : Nat) ({ cls := "StandUpBook", name := "winningStep", desc := "(IIII)I" } : Jvm.MethodName)) ∈ pm_tbl := pm_mem 701 (by decide +kernel) rfl
theorem kw_722 : (Jvm.Cond.methodLink "StandUpBook" (272 : Nat) ({ cls := "StandUpBook", name := "kindsThatFit", desc := "(I)I" } : Jvm.MethodName)) ∈ pm_tbl := pm_mem 722 (by decide +kernel) rfl
theorem kw_724 : (Jvm.Cond.instanceMethod ({ cls := "StandUpBook", name := "kindsThatFit", desc := "(I)I" } : Jvm.MethodName)) ∈ pm_tbl := pm_mem 724 (by decide +kernel) rfl
theorem kv_21 : (Jvm.Cond.selects "StandUpBook" ({ cls := "StandUpBook", name := "kindsThatFit", desc := "(I)I" } : Jvm.MethodName) ({ cls := "StandUpBook", name := "kindsThatFit", desc := "(I)I" } : Jvm.MethodName)) ∈ pm_tbl := pm_mems 21 (by decide +kernel) rfl
theorem kw_735 : (Jvm.Cond.methodLink "StandUpBook" (275 : Nat) ({ cls := "StandUpBook", name := "mostAlike", desc := "(IIII)I" } : Jvm.MethodName)) ∈ pm_tbl := pm_mem 735 (by decide +kernel) rfl
theorem kw_737 : (Jvm.Cond.instanceMethod ({ cls := "StandUpBook", name := "mostAlike", desc := "(IIII)I" } : Jvm.MethodName)) ∈ pm_tbl := pm_mem 737 (by decide +kernel) rfl
theorem kv_23 : (Jvm.Cond.selects "StandUpBook" ({ cls := "StandUpBook", name := "mostAlike", desc := "(IIII)I" } : Jvm.MethodName) ({ cls := "StandUpBook", name := "mostAlike", desc := "(IIII)I" } : Jvm.MethodName)) ∈ pm_tbl := pm_mems 23 (by decide +kernel) rfl
theorem kw_747 : (Jvm.Cond.methodLink "StandUpBook" (278 : Nat) ({ cls := "StandUpBook", name := "trialStandsSo", desc := "()Z" } : Jvm.MethodName)) ∈ pm_tbl := pm_mem 747 (by decide +kernel) rfl
theorem kw_749 : (Jvm.Cond.instanceMethod ({ cls := "StandUpBook", name := "trialStandsSo", desc := "()Z" } : Jvm.MethodName)) ∈ pm_tbl := pm_mem 749 (by decide +kernel) rfl
theorem kv_25 : (Jvm.Cond.selects "StandUpBook" ({ cls := "StandUpBook", name := "trialStandsSo", desc := "()Z" } : Jvm.MethodName) ({ cls := "StandUpBook", name := "trialStandsSo", desc := "()Z" } : Jvm.MethodName)) ∈ pm_tbl := pm_mems 25 (by decide +kernel) rfl
theorem kw_755 : (Jvm.Cond.methodLink "StandUpBook" (281 : Nat) ({ cls := "StandUpBook$Page", name := "highestAt", desc := "(I)I" } : Jvm.MethodName)) ∈ pm_tbl := pm_mem 755 (by decide +kernel) rfl
theorem kw_756 : (Jvm.Cond.instanceMethod ({ cls := "StandUpBook$Page", name := "highestAt", desc := "(I)I" } : Jvm.MethodName)) ∈ pm_tbl := pm_mem 756 (by decide +kernel) rfl
theorem kw_757 : (Jvm.Cond.selects "StandUpBook$Page" ({ cls := "StandUpBook$Page", name := "highestAt", desc := "(I)I" } : Jvm.MethodName) ({ cls := "StandUpBook$Page", name := "highestAt", desc := "(I)I" } : Jvm.MethodName)) ∈ pm_tbl := pm_mem 757 (by decide +kernel) rfl
theorem kw_759 : (Jvm.Cond.methodLink "StandUpBook" (284 : Nat) ({ cls := "StandUpBook", name := "rests", desc := "(II)Z" } : Jvm.MethodName)) ∈ pm_tbl := pm_mem 759 (by decide +kernel) rfl
theorem kw_761 : (Jvm.Cond.instanceMethod ({ cls := "StandUpBook", name := "rests", desc := "(II)Z" } : Jvm.MethodName)) ∈ pm_tbl := pm_mem 761 (by decide +kernel) rfl
theorem kv_26 : (Jvm.Cond.selects "StandUpBook" ({ cls := "StandUpBook", name := "rests", desc := "(II)Z" } : Jvm.MethodName) ({ cls := "StandUpBook", name := "rests", desc := "(II)Z" } : Jvm.MethodName)) ∈ pm_tbl := pm_mems 26 (by decide +kernel) rfl
theorem kw_775 : (Jvm.Cond.methodLink "StandUpBook" (287 : Nat) ({ cls := "StandUpBook$Page", name := "looseOnes", desc := "()I" } : Jvm.MethodName)) ∈ pm_tbl := pm_mem 775 (by decide +kernel) rfl
theorem kw_776 : (Jvm.Cond.instanceMethod ({ cls := "StandUpBook$Page", name := "looseOnes", desc := "()I" } : Jvm.MethodName)) ∈ pm_tbl := pm_mem 776 (by decide +kernel) rfl
theorem kw_777 : (Jvm.Cond.selects "StandUpBook$Page" ({ cls := "StandUpBook$Page", name := "looseOnes", desc := "()I" } : Jvm.MethodName) ({ cls := "StandUpBook$Page", name := "looseOnes", desc := "()I" } : Jvm.MethodName)) ∈ pm_tbl := pm_mem 777 (by decide +kernel) rfl
theorem kw_779 : (Jvm.Cond.methodLink "StandUpBook" (290 : Nat) ({ cls := "java/lang/Integer", name := "bitCount", desc := "(I)I" } : Jvm.MethodName)) ∈ pm_tbl := pm_mem 779 (by decide +kernel) rfl
theorem kw_781 : (Jvm.Cond.static ({ cls := "StandUpBook", name := "power", desc := "(II)J" } : Jvm.MethodName)) ∈ pm_tbl := pm_mem 781 (by decide +kernel) rfl
theorem kw_780 : (Jvm.Cond.methodLink "StandUpBook" (295 : Nat) ({ cls := "StandUpBook", name := "power", desc := "(II)J" } : Jvm.MethodName)) ∈ pm_tbl := pm_mem 780 (by decide +kernel) rfl
theorem kw_783 : (Jvm.Cond.methodLink "StandUpBook" (299 : Nat) ({ cls := "StandUpBook", name := "keepFraction", desc := "(JJ)V" } : Jvm.MethodName)) ∈ pm_tbl := pm_mem 783 (by decide +kernel) rfl
theorem kw_785 : (Jvm.Cond.instanceMethod ({ cls := "StandUpBook", name := "keepFraction", desc := "(JJ)V" } : Jvm.MethodName)) ∈ pm_tbl := pm_mem 785 (by decide +kernel) rfl
theorem kv_29 : (Jvm.Cond.selects "StandUpBook" ({ cls := "StandUpBook", name := "keepFraction", desc := "(JJ)V" } : Jvm.MethodName) ({ cls := "StandUpBook", name := "keepFraction", desc := "(JJ)V" } : Jvm.MethodName)) ∈ pm_tbl := pm_mems 29 (by decide +kernel) rfl
theorem kw_808 : (Jvm.Cond.methodLink "StandUpBook" (314 : Nat) ({ cls := "StandUpBook$Spread", name := "copyFrom", desc := "(LStandUpBook$Spread;)V" } : Jvm.MethodName)) ∈ pm_tbl := pm_mem 808 (by decide +kernel) rfl
theorem kw_809 : (Jvm.Cond.instanceMethod ({ cls := "StandUpBook$Spread", name := "copyFrom", desc := "(LStandUpBook$Spread;)V" } : Jvm.MethodName)) ∈ pm_tbl := pm_mem 809 (by decide +kernel) rfl
theorem kw_810 : (Jvm.Cond.selects "StandUpBook$Spread" ({ cls := "StandUpBook$Spread", name := "copyFrom", desc := "(LStandUpBook$Spread;)V" } : Jvm.MethodName) ({ cls := "StandUpBook$Spread", name := "copyFrom", desc := "(LStandUpBook$Spread;)V" } : Jvm.MethodName)) ∈ pm_tbl := pm_mem 810 (by decide +kernel) rfl
theorem kw_827 : (Jvm.Cond.methodLink "StandUpBook" (317 : Nat) ({ cls := "StandUpBook$Page", name := "wearOfAll", desc := "()I" } : Jvm.MethodName)) ∈ pm_tbl := pm_mem 827 (by decide +kernel) rfl
theorem kw_828 : (Jvm.Cond.instanceMethod ({ cls := "StandUpBook$Page", name := "wearOfAll", desc := "()I" } : Jvm.MethodName)) ∈ pm_tbl := pm_mem 828 (by decide +kernel) rfl
theorem kw_829 : (Jvm.Cond.selects "StandUpBook$Page" ({ cls := "StandUpBook$Page", name := "wearOfAll", desc := "()I" } : Jvm.MethodName) ({ cls := "StandUpBook$Page", name := "wearOfAll", desc := "()I" } : Jvm.MethodName)) ∈ pm_tbl := pm_mem 829 (by decide +kernel) rfl
theorem kw_836 : (Jvm.Cond.methodLink "StandUpBook" (322 : Nat) ({ cls := "StandUpBook", name := "count", desc := "(I)I" } : Jvm.MethodName)) ∈ pm_tbl := pm_mem 836 (by decide +kernel) rfl
theorem kw_824 : (Jvm.Cond.instanceMethod ({ cls := "StandUpBook", name := "count", desc := "(I)I" } : Jvm.MethodName)) ∈ pm_tbl := pm_mem 824 (by decide +kernel) rfl
theorem kw_825 : (Jvm.Cond.selects "StandUpBook" ({ cls := "StandUpBook", name := "count", desc := "(I)I" } : Jvm.MethodName) ({ cls := "StandUpBook", name := "count", desc := "(I)I" } : Jvm.MethodName)) ∈ pm_tbl := pm_mem 825 (by decide +kernel) rfl
theorem kw_837 : (Jvm.Cond.methodLink "StandUpBook" (325 : Nat) ({ cls := "StandUpBook", name := "mixed", desc := "(JJ)J" } : Jvm.MethodName)) ∈ pm_tbl := pm_mem 837 (by decide +kernel) rfl
theorem kw_841 : (Jvm.Cond.methodLink "StandUpBook" (329 : Nat) ({ cls := "StandUpBook$Page", name := "mixedInto", desc := "(J)J" } : Jvm.MethodName)) ∈ pm_tbl := pm_mem 841 (by decide +kernel) rfl
theorem kw_842 : (Jvm.Cond.instanceMethod ({ cls := "StandUpBook$Page", name := "mixedInto", desc := "(J)J" } : Jvm.MethodName)) ∈ pm_tbl := pm_mem 842 (by decide +kernel) rfl
theorem kw_843 : (Jvm.Cond.selects "StandUpBook$Page" ({ cls := "StandUpBook$Page", name := "mixedInto", desc := "(J)J" } : Jvm.MethodName) ({ cls := "StandUpBook$Page", name := "mixedInto", desc := "(J)J" } : Jvm.MethodName)) ∈ pm_tbl := pm_mem 843 (by decide +kernel) rfl
theorem kw_851 : (Jvm.Cond.static ({ cls := "StandUpBook", name := "mixedRows", desc := "(J[[II)J" } : Jvm.MethodName)) ∈ pm_tbl := pm_mem 851 (by decide +kernel) rfl
theorem kw_850 : (Jvm.Cond.methodLink "StandUpBook" (333 : Nat) ({ cls := "StandUpBook", name := "mixedRows", desc := "(J[[II)J" } : Jvm.MethodName)) ∈ pm_tbl := pm_mem 850 (by decide +kernel) rfl
theorem kw_726 : (Jvm.Cond.methodLink "StandUpBook" (345 : Nat) ({ cls := "StandUpBook", name := "fitsNotes", desc := "(II)Z" } : Jvm.MethodName)) ∈ pm_tbl := pm_mem 726 (by decide +kernel) rfl
theorem kw_728 : (Jvm.Cond.instanceMethod ({ cls := "StandUpBook", name := "fitsNotes", desc := "(II)Z" } : Jvm.MethodName)) ∈ pm_tbl := pm_mem 728 (by decide +kernel) rfl
theorem kv_22 : (Jvm.Cond.selects "StandUpBook" ({ cls := "StandUpBook", name := "fitsNotes", desc := "(II)Z" } : Jvm.MethodName) ({ cls := "StandUpBook", name := "fitsNotes", desc := "(II)Z" } : Jvm.MethodName)) ∈ pm_tbl := pm_mems 22 (by decide +kernel) rfl
theorem kw_730 : (Jvm.Cond.methodLink "StandUpBook" (352 : Nat) ({ cls := "StandUpBook$Vee", name := "riseOf", desc := "(III)I" } : Jvm.MethodName)) ∈ pm_tbl := pm_mem 730 (by decide +kernel) rfl
theorem kw_739 : (Jvm.Cond.methodLink "StandUpBook" (355 : Nat) ({ cls := "StandUpBook", name := "manyThatRise", desc := "(IIIII)I" } : Jvm.MethodName)) ∈ pm_tbl := pm_mem 739 (by decide +kernel) rfl
theorem kw_741 : (Jvm.Cond.instanceMethod ({ cls := "StandUpBook", name := "manyThatRise", desc := "(IIIII)I" } : Jvm.MethodName)) ∈ pm_tbl := pm_mem 741 (by decide +kernel) rfl
theorem kv_24 : (Jvm.Cond.selects "StandUpBook" ({ cls := "StandUpBook", name := "manyThatRise", desc := "(IIIII)I" } : Jvm.MethodName) ({ cls := "StandUpBook", name := "manyThatRise", desc := "(IIIII)I" } : Jvm.MethodName)) ∈ pm_tbl := pm_mems 24 (by decide +kernel) rfl
theorem kw_763 : (Jvm.Cond.methodLink "StandUpBook" (358 : Nat) ({ cls := "StandUpBook", name := "firstGets", desc := "(II)I" } : Jvm.MethodName)) ∈ pm_tbl := pm_mem 763 (by decide +kernel) rfl
theorem kw_765 : (Jvm.Cond.instanceMethod ({ cls := "StandUpBook", name := "firstGets", desc := "(II)I" } : Jvm.MethodName)) ∈ pm_tbl := pm_mem 765 (by decide +kernel) rfl
theorem kv_27 : (Jvm.Cond.selects "StandUpBook" ({ cls := "StandUpBook", name := "firstGets", desc := "(II)I" } : Jvm.MethodName) ({ cls := "StandUpBook", name := "firstGets", desc := "(II)I" } : Jvm.MethodName)) ∈ pm_tbl := pm_mems 27 (by decide +kernel) rfl
theorem kw_767 : (Jvm.Cond.methodLink "StandUpBook" (361 : Nat) ({ cls := "StandUpBook", name := "secondGets", desc := "(II)I" } : Jvm.MethodName)) ∈ pm_tbl := pm_mem 767 (by decide +kernel) rfl
theorem kw_769 : (Jvm.Cond.instanceMethod ({ cls := "StandUpBook", name := "secondGets", desc := "(II)I" } : Jvm.MethodName)) ∈ pm_tbl := pm_mem 769 (by decide +kernel) rfl
theorem kv_28 : (Jvm.Cond.selects "StandUpBook" ({ cls := "StandUpBook", name := "secondGets", desc := "(II)I" } : Jvm.MethodName) ({ cls := "StandUpBook", name := "secondGets", desc := "(II)I" } : Jvm.MethodName)) ∈ pm_tbl := pm_mems 28 (by decide +kernel) rfl
theorem kw_788 : (Jvm.Cond.static ({ cls := "StandUpBook", name := "commonDivisor", desc := "(JJ)J" } : Jvm.MethodName)) ∈ pm_tbl := pm_mem 788 (by decide +kernel) rfl
theorem kw_787 : (Jvm.Cond.methodLink "StandUpBook" (364 : Nat) ({ cls := "StandUpBook", name := "commonDivisor", desc := "(JJ)J" } : Jvm.MethodName)) ∈ pm_tbl := pm_mem 787 (by decide +kernel) rfl
theorem kw_859 : (Jvm.Cond.methodLink "StandUpBookModel" (92 : Nat) ({ cls := "StandUpBookModel", name := "begin", desc := "(I)V" } : Jvm.MethodName)) ∈ pm_tbl := pm_mem 859 (by decide +kernel) rfl
theorem kw_861 : (Jvm.Cond.instanceMethod ({ cls := "StandUpBookModel", name := "begin", desc := "(I)V" } : Jvm.MethodName)) ∈ pm_tbl := pm_mem 861 (by decide +kernel) rfl
theorem kv_30 : (Jvm.Cond.selects "StandUpBookModel" ({ cls := "StandUpBookModel", name := "begin", desc := "(I)V" } : Jvm.MethodName) ({ cls := "StandUpBookModel", name := "begin", desc := "(I)V" } : Jvm.MethodName)) ∈ pm_tbl := pm_mems 30 (by decide +kernel) rfl
theorem kw_989 : (Jvm.Cond.static ({ cls := "StandUpBookModel", name := "in", desc := "(III)Z" } : Jvm.MethodName)) ∈ pm_tbl := pm_mem 989 (by decide +kernel) rfl
theorem kw_988 : (Jvm.Cond.methodLink "StandUpBookModel" (115 : Nat) ({ cls := "StandUpBookModel", name := "in", desc := "(III)Z" } : Jvm.MethodName)) ∈ pm_tbl := pm_mem 988 (by decide +kernel) rfl
theorem kw_991 : (Jvm.Cond.methodLink "StandUpBookModel" (119 : Nat) ({ cls := "StandUpBookModel", name := "bad", desc := "()I" } : Jvm.MethodName)) ∈ pm_tbl := pm_mem 991 (by decide +kernel) rfl
theorem kw_993 : (Jvm.Cond.instanceMethod ({ cls := "StandUpBookModel", name := "bad", desc := "()I" } : Jvm.MethodName)) ∈ pm_tbl := pm_mem 993 (by decide +kernel) rfl
theorem kv_31 : (Jvm.Cond.selects "StandUpBookModel" ({ cls := "StandUpBookModel", name := "bad", desc := "()I" } : Jvm.MethodName) ({ cls := "StandUpBookModel", name := "bad", desc := "()I" } : Jvm.MethodName)) ∈ pm_tbl := pm_mems 31 (by decide +kernel) rfl
theorem kw_999 : (Jvm.Cond.methodLink "StandUpBookModel" (123 : Nat) ({ cls := "StandUpBookModel", name := "full", desc := "()I" } : Jvm.MethodName)) ∈ pm_tbl := pm_mem 999 (by decide +kernel) rfl
theorem kw_1001 : (Jvm.Cond.instanceMethod ({ cls := "StandUpBookModel", name := "full", desc := "()I" } : Jvm.MethodName)) ∈ pm_tbl := pm_mem 1001 (by decide +kernel) rfl
theorem kv_32 : (Jvm.Cond.selects "StandUpBookModel" ({ cls := "StandUpBookModel", name := "full", desc := "()I" } : Jvm.MethodName) ({ cls := "StandUpBookModel", name := "full", desc := "()I" } : Jvm.MethodName)) ∈ pm_tbl := pm_mems 32 (by decide +kernel) rfl
theorem kw_1003 : (Jvm.Cond.methodLink "StandUpBookModel" (126 : Nat) ({ cls := "StandUpBookModel", name := "addPiece", desc := "(IIIII)I" } : Jvm.MethodName)) ∈ pm_tbl := pm_mem 1003 (by decide +kernel) rfl
theorem kw_1005 : (Jvm.Cond.instanceMethod ({ cls := "StandUpBookModel", name := "addPiece", desc := "(IIIII)I" } : Jvm.MethodName)) ∈ pm_tbl := pm_mem 1005 (by decide +kernel) rfl
theorem kv_33 : (Jvm.Cond.selects "StandUpBookModel" ({ cls := "StandUpBookModel", name := "addPiece", desc := "(IIIII)I" } : Jvm.MethodName) ({ cls := "StandUpBookModel", name := "addPiece", desc := "(IIIII)I" } : Jvm.MethodName)) ∈ pm_tbl := pm_mems 33 (by decide +kernel) rfl
theorem kw_1039 : (Jvm.Cond.methodLink "StandUpBookModel" (136 : Nat) ({ cls := "StandUpBookModel", name := "here", desc := "()I" } : Jvm.MethodName)) ∈ pm_tbl := pm_mem 1039 (by decide +kernel) rfl
theorem kw_1041 : (Jvm.Cond.instanceMethod ({ cls := "StandUpBookModel", name := "here", desc := "()I" } : Jvm.MethodName)) ∈ pm_tbl := pm_mem 1041 (by decide +kernel) rfl
theorem kv_39 : (Jvm.Cond.selects "StandUpBookModel" ({ cls := "StandUpBookModel", name := "here", desc := "()I" } : Jvm.MethodName) ({ cls := "StandUpBookModel", name := "here", desc := "()I" } : Jvm.MethodName)) ∈ pm_tbl := pm_mems 39 (by decide +kernel) rfl
theorem kw_1052 : (Jvm.Cond.static ({ cls := "StandUpBookModel", name := "isLetter", desc := "(I)Z" } : Jvm.MethodName)) ∈ pm_tbl := pm_mem 1052 (by decide +kernel) rfl
theorem kw_1051 : (Jvm.Cond.methodLink "StandUpBookModel" (139 : Nat) ({ cls := "StandUpBookModel", name := "isLetter", desc := "(I)Z" } : Jvm.MethodName)) ∈ pm_tbl := pm_mem 1051 (by decide +kernel) rfl
theorem kw_1047 : (Jvm.Cond.methodLink "StandUpBookModel" (143 : Nat) ({ cls := "StandUpBookModel", name := "wordSize", desc := "()I" } : Jvm.MethodName)) ∈ pm_tbl := pm_mem 1047 (by decide +kernel) rfl
theorem kw_1049 : (Jvm.Cond.instanceMethod ({ cls := "StandUpBookModel", name := "wordSize", desc := "()I" } : Jvm.MethodName)) ∈ pm_tbl := pm_mem 1049 (by decide +kernel) rfl
theorem kv_41 : (Jvm.Cond.selects "StandUpBookModel" ({ cls := "StandUpBookModel", name := "wordSize", desc := "()I" } : Jvm.MethodName) ({ cls := "StandUpBookModel", name := "wordSize", desc := "()I" } : Jvm.MethodName)) ∈ pm_tbl := pm_mems 41 (by decide +kernel) rfl
theorem kw_1054 : (Jvm.Cond.methodLink "StandUpBookModel" (146 : Nat) ({ cls := "StandUpBookModel", name := "letter", desc := "(I)I" } : Jvm.MethodName)) ∈ pm_tbl := pm_mem 1054 (by decide +kernel) rfl
theorem kw_1056 : (Jvm.Cond.instanceMethod ({ cls := "StandUpBookModel", name := "letter", desc := "(I)I" } : Jvm.MethodName)) ∈ pm_tbl := pm_mem 1056 (by decide +kernel) rfl
theorem kv_42 : (Jvm.Cond.selects "StandUpBookModel" ({ cls := "StandUpBookModel", name := "letter", desc := "(I)I" } : Jvm.MethodName) ({ cls := "StandUpBookModel", name := "letter", desc := "(I)I" } : Jvm.MethodName)) ∈ pm_tbl := pm_mems 42 (by decide +kernel) rfl
theorem kw_1035 : (Jvm.Cond.methodLink "StandUpBookModel" (150 : Nat) ({ cls := "StandUpBookModel", name := "skip", desc := "()V" } : Jvm.MethodName)) ∈ pm_tbl := pm_mem 1035 (by decide +kernel) rfl
theorem kw_1037 : (Jvm.Cond.instanceMethod ({ cls := "StandUpBookModel", name := "skip", desc := "()V" } : Jvm.MethodName)) ∈ pm_tbl := pm_mem 1037 (by decide +kernel) rfl
theorem kv_38 : (Jvm.Cond.selects "StandUpBookModel" ({ cls := "StandUpBookModel", name := "skip", desc := "()V" } : Jvm.MethodName) ({ cls := "StandUpBookModel", name := "skip", desc := "()V" } : Jvm.MethodName)) ∈ pm_tbl := pm_mems 38 (by decide +kernel) rfl
theorem kw_1063 : (Jvm.Cond.static ({ cls := "StandUpBookModel", name := "isFigure", desc := "(I)Z" } : Jvm.MethodName)) ∈ pm_tbl := pm_mem 1063 (by decide +kernel) rfl
theorem kw_1062 : (Jvm.Cond.methodLink "StandUpBookModel" (153 : Nat) ({ cls := "StandUpBookModel", name := "isFigure", desc := "(I)Z" } : Jvm.MethodName)) ∈ pm_tbl := pm_mem 1062 (by decide +kernel) rfl
theorem kw_1058 : (Jvm.Cond.methodLink "StandUpBookModel" (159 : Nat) ({ cls := "StandUpBookModel", name := "number", desc := "(II)Z" } : Jvm.MethodName)) ∈ pm_tbl := pm_mem 1058 (by decide +kernel) rfl
theorem kw_1060 : (Jvm.Cond.instanceMethod ({ cls := "StandUpBookModel", name := "number", desc := "(II)Z" } : Jvm.MethodName)) ∈ pm_tbl := pm_mem 1060 (by decide +kernel) rfl
theorem kv_43 : (Jvm.Cond.selects "StandUpBookModel" ({ cls := "StandUpBookModel", name := "number", desc := "(II)Z" } : Jvm.MethodName) ({ cls := "StandUpBookModel", name := "number", desc := "(II)Z" } : Jvm.MethodName)) ∈ pm_tbl := pm_mems 43 (by decide +kernel) rfl
theorem kw_1065 : (Jvm.Cond.methodLink "StandUpBookModel" (163 : Nat) ({ cls := "StandUpBookModel", name := "ends", desc := "()Z" } : Jvm.MethodName)) ∈ pm_tbl := pm_mem 1065 (by decide +kernel) rfl
theorem kw_1067 : (Jvm.Cond.instanceMethod ({ cls := "StandUpBookModel", name := "ends", desc := "()Z" } : Jvm.MethodName)) ∈ pm_tbl := pm_mem 1067 (by decide +kernel) rfl
theorem kv_44 : (Jvm.Cond.selects "StandUpBookModel" ({ cls := "StandUpBookModel", name := "ends", desc := "()Z" } : Jvm.MethodName) ({ cls := "StandUpBookModel", name := "ends", desc := "()Z" } : Jvm.MethodName)) ∈ pm_tbl := pm_mems 44 (by decide +kernel) rfl
theorem kw_1077 : (Jvm.Cond.methodLink "StandUpBookModel" (167 : Nat) ({ cls := "StandUpBookModel", name := "goesTo", desc := "(I)V" } : Jvm.MethodName)) ∈ pm_tbl := pm_mem 1077 (by decide +kernel) rfl
theorem kw_1079 : (Jvm.Cond.instanceMethod ({ cls := "StandUpBookModel", name := "goesTo", desc := "(I)V" } : Jvm.MethodName)) ∈ pm_tbl := pm_mem 1079 (by decide +kernel) rfl
theorem kv_47 : (Jvm.Cond.selects "StandUpBookModel" ({ cls := "StandUpBookModel", name := "goesTo", desc := "(I)V" } : Jvm.MethodName) ({ cls := "StandUpBookModel", name := "goesTo", desc := "(I)V" } : Jvm.MethodName)) ∈ pm_tbl := pm_mems 47 (by decide +kernel) rfl
theorem kw_1043 : (Jvm.Cond.methodLink "StandUpBookModel" (170 : Nat) ({ cls := "StandUpBookModel", name := "wordHere", desc := "()I" } : Jvm.MethodName)) ∈ pm_tbl := pm_mem 1043 (by decide +kernel) rfl
theorem kw_1045 : (Jvm.Cond.instanceMethod ({ cls := "StandUpBookModel", name := "wordHere", desc := "()I" } : Jvm.MethodName)) ∈ pm_tbl := pm_mem 1045 (by decide +kernel) rfl
theorem kv_40 : (Jvm.Cond.selects "StandUpBookModel" ({ cls := "StandUpBookModel", name := "wordHere", desc := "()I" } : Jvm.MethodName) ({ cls := "StandUpBookModel", name := "wordHere", desc := "()I" } : Jvm.MethodName)) ∈ pm_tbl := pm_mems 40 (by decide +kernel) rfl
theorem kw_1073 : (Jvm.Cond.methodLink "StandUpBookModel" (173 : Nat) ({ cls := "StandUpBookModel", name := "readsOpen", desc := "()Z" } : Jvm.MethodName)) ∈ pm_tbl := pm_mem 1073 (by decide +kernel) rfl
theorem kw_1075 : (Jvm.Cond.instanceMethod ({ cls := "StandUpBookModel", name := "readsOpen", desc := "()Z" } : Jvm.MethodName)) ∈ pm_tbl := pm_mem 1075 (by decide +kernel) rfl
theorem kv_46 : (Jvm.Cond.selects "StandUpBookModel" ({ cls := "StandUpBookModel", name := "readsOpen", desc := "()Z" } : Jvm.MethodName) ({ cls := "StandUpBookModel", name := "readsOpen", desc := "()Z" } : Jvm.MethodName)) ∈ pm_tbl := pm_mems 46 (by decide +kernel) rfl
theorem kw_1091 : (Jvm.Cond.methodLink "StandUpBookModel" (176 : Nat) ({ cls := "StandUpBookModel", name := "readsPull", desc := "()Z" } : Jvm.MethodName)) ∈ pm_tbl := pm_mem 1091 (by decide +kernel) rfl
theorem kw_1093 : (Jvm.Cond.instanceMethod ({ cls := "StandUpBookModel", name := "readsPull", desc := "()Z" } : Jvm.MethodName)) ∈ pm_tbl := pm_mem 1093 (by decide +kernel) rfl
theorem kv_49 : (Jvm.Cond.selects "StandUpBookModel" ({ cls := "StandUpBookModel", name := "readsPull", desc := "()Z" } : Jvm.MethodName) ({ cls := "StandUpBookModel", name := "readsPull", desc := "()Z" } : Jvm.MethodName)) ∈ pm_tbl := pm_mems 49 (by decide +kernel) rfl
theorem kw_1095 : (Jvm.Cond.methodLink "StandUpBookModel" (179 : Nat) ({ cls := "StandUpBookModel", name := "readsPiece", desc := "(Z)Z" } : Jvm.MethodName)) ∈ pm_tbl := pm_mem 1095 (by decide +kernel) rfl
theorem kw_1097 : (Jvm.Cond.instanceMethod ({ cls := "StandUpBookModel", name := "readsPiece", desc := "(Z)Z" } : Jvm.MethodName)) ∈ pm_tbl := pm_mem 1097 (by decide +kernel) rfl
theorem kv_50 : (Jvm.Cond.selects "StandUpBookModel" ({ cls := "StandUpBookModel", name := "readsPiece", desc := "(Z)Z" } : Jvm.MethodName) ({ cls := "StandUpBookModel", name := "readsPiece", desc := "(Z)Z" } : Jvm.MethodName)) ∈ pm_tbl := pm_mems 50 (by decide +kernel) rfl
theorem kw_1031 : (Jvm.Cond.methodLink "StandUpBookModel" (183 : Nat) ({ cls := "StandUpBookModel", name := "readsFirst", desc := "()Z" } : Jvm.MethodName)) ∈ pm_tbl := pm_mem 1031 (by decide +kernel) rfl
theorem kw_1033 : (Jvm.Cond.instanceMethod ({ cls := "StandUpBookModel", name := "readsFirst", desc := "()Z" } : Jvm.MethodName)) ∈ pm_tbl := pm_mem 1033 (by decide +kernel) rfl
theorem kv_37 : (Jvm.Cond.selects "StandUpBookModel" ({ cls := "StandUpBookModel", name := "readsFirst", desc := "()Z" } : Jvm.MethodName) ({ cls := "StandUpBookModel", name := "readsFirst", desc := "()Z" } : Jvm.MethodName)) ∈ pm_tbl := pm_mems 37 (by decide +kernel) rfl
theorem kw_1069 : (Jvm.Cond.methodLink "StandUpBookModel" (186 : Nat) ({ cls := "StandUpBookModel", name := "readsItem", desc := "()Z" } : Jvm.MethodName)) ∈ pm_tbl := pm_mem 1069 (by decide +kernel) rfl
theorem kw_1071 : (Jvm.Cond.instanceMethod ({ cls := "StandUpBookModel", name := "readsItem", desc := "()Z" } : Jvm.MethodName)) ∈ pm_tbl := pm_mem 1071 (by decide +kernel) rfl
theorem kv_45 : (Jvm.Cond.selects "StandUpBookModel" ({ cls := "StandUpBookModel", name := "readsItem", desc := "()Z" } : Jvm.MethodName) ({ cls := "StandUpBookModel", name := "readsItem", desc := "()Z" } : Jvm.MethodName)) ∈ pm_tbl := pm_mems 45 (by decide +kernel) rfl
theorem kw_1019 : (Jvm.Cond.methodLink "StandUpBookModel" (189 : Nat) ({ cls := "StandUpBookModel", name := "layAll", desc := "([II)V" } : Jvm.MethodName)) ∈ pm_tbl := pm_mem 1019 (by decide +kernel) rfl
theorem kw_1021 : (Jvm.Cond.instanceMethod ({ cls := "StandUpBookModel", name := "layAll", desc := "([II)V" } : Jvm.MethodName)) ∈ pm_tbl := pm_mem 1021 (by decide +kernel) rfl
theorem kv_34 : (Jvm.Cond.selects "StandUpBookModel" ({ cls := "StandUpBookModel", name := "layAll", desc := "([II)V" } : Jvm.MethodName) ({ cls := "StandUpBookModel", name := "layAll", desc := "([II)V" } : Jvm.MethodName)) ∈ pm_tbl := pm_mems 34 (by decide +kernel) rfl
theorem kw_1027 : (Jvm.Cond.methodLink "StandUpBookModel" (193 : Nat) ({ cls := "StandUpBookModel", name := "readsBook", desc := "()I" } : Jvm.MethodName)) ∈ pm_tbl := pm_mem 1027 (by decide +kernel) rfl
theorem kw_1029 : (Jvm.Cond.instanceMethod ({ cls := "StandUpBookModel", name := "readsBook", desc := "()I" } : Jvm.MethodName)) ∈ pm_tbl := pm_mem 1029 (by decide +kernel) rfl
theorem kv_36 : (Jvm.Cond.selects "StandUpBookModel" ({ cls := "StandUpBookModel", name := "readsBook", desc := "()I" } : Jvm.MethodName) ({ cls := "StandUpBookModel", name := "readsBook", desc := "()I" } : Jvm.MethodName)) ∈ pm_tbl := pm_mems 36 (by decide +kernel) rfl
theorem kw_1099 : (Jvm.Cond.methodLink "StandUpBookModel" (196 : Nat) ({ cls := "StandUpBookModel", name := "takeAll", desc := "([II)V" } : Jvm.MethodName)) ∈ pm_tbl := pm_mem 1099 (by decide +kernel) rfl
theorem kw_1101 : (Jvm.Cond.instanceMethod ({ cls := "StandUpBookModel", name := "takeAll", desc := "([II)V" } : Jvm.MethodName)) ∈ pm_tbl := pm_mem 1101 (by decide +kernel) rfl
theorem kv_51 : (Jvm.Cond.selects "StandUpBookModel" ({ cls := "StandUpBookModel", name := "takeAll", desc := "([II)V" } : Jvm.MethodName) ({ cls := "StandUpBookModel", name := "takeAll", desc := "([II)V" } : Jvm.MethodName)) ∈ pm_tbl := pm_mems 51 (by decide +kernel) rfl
theorem kw_1086 : (Jvm.Cond.static ({ cls := "StandUpBookModel", name := "bearsBy", desc := "(I)I" } : Jvm.MethodName)) ∈ pm_tbl := pm_mem 1086 (by decide +kernel) rfl
theorem kw_1085 : (Jvm.Cond.methodLink "StandUpBookModel" (199 : Nat) ({ cls := "StandUpBookModel", name := "bearsBy", desc := "(I)I" } : Jvm.MethodName)) ∈ pm_tbl := pm_mem 1085 (by decide +kernel) rfl
theorem kw_1081 : (Jvm.Cond.methodLink "StandUpBookModel" (202 : Nat) ({ cls := "StandUpBookModel", name := "isStuck", desc := "(I)Z" } : Jvm.MethodName)) ∈ pm_tbl := pm_mem 1081 (by decide +kernel) rfl
theorem kw_1083 : (Jvm.Cond.instanceMethod ({ cls := "StandUpBookModel", name := "isStuck", desc := "(I)Z" } : Jvm.MethodName)) ∈ pm_tbl := pm_mem 1083 (by decide +kernel) rfl
theorem kv_48 : (Jvm.Cond.selects "StandUpBookModel" ({ cls := "StandUpBookModel", name := "isStuck", desc := "(I)Z" } : Jvm.MethodName) ({ cls := "StandUpBookModel", name := "isStuck", desc := "(I)Z" } : Jvm.MethodName)) ∈ pm_tbl := pm_mems 48 (by decide +kernel) rfl
theorem kw_1135 : (Jvm.Cond.static ({ cls := "StandUpBookModel", name := "has", desc := "(II)Z" } : Jvm.MethodName)) ∈ pm_tbl := pm_mem 1135 (by decide +kernel) rfl
theorem kw_1134 : (Jvm.Cond.methodLink "StandUpBookModel" (208 : Nat) ({ cls := "StandUpBookModel", name := "has", desc := "(II)Z" } : Jvm.MethodName)) ∈ pm_tbl := pm_mem 1134 (by decide +kernel) rfl
theorem kw_1138 : (Jvm.Cond.static ({ cls := "StandUpBookModel", name := "risesBy", desc := "(IIII)I" } : Jvm.MethodName)) ∈ pm_tbl := pm_mem 1138 (by decide +kernel) rfl
theorem kw_1137 : (Jvm.Cond.methodLink "StandUpBookModel" (211 : Nat) ({ cls := "StandUpBookModel", name := "risesBy", desc := "(IIII)I" } : Jvm.MethodName)) ∈ pm_tbl := pm_mem 1137 (by decide +kernel) rfl
theorem kw_1130 : (Jvm.Cond.methodLink "StandUpBookModel" (215 : Nat) ({ cls := "StandUpBookModel", name := "riseOf", desc := "(II)I" } : Jvm.MethodName)) ∈ pm_tbl := pm_mem 1130 (by decide +kernel) rfl
theorem kw_1132 : (Jvm.Cond.instanceMethod ({ cls := "StandUpBookModel", name := "riseOf", desc := "(II)I" } : Jvm.MethodName)) ∈ pm_tbl := pm_mem 1132 (by decide +kernel) rfl
theorem kv_57 : (Jvm.Cond.selects "StandUpBookModel" ({ cls := "StandUpBookModel", name := "riseOf", desc := "(II)I" } : Jvm.MethodName) ({ cls := "StandUpBookModel", name := "riseOf", desc := "(II)I" } : Jvm.MethodName)) ∈ pm_tbl := pm_mems 57 (by decide +kernel) rfl
theorem kw_1126 : (Jvm.Cond.methodLink "StandUpBookModel" (219 : Nat) ({ cls := "StandUpBookModel", name := "heightOf", desc := "(II)I" } : Jvm.MethodName)) ∈ pm_tbl := pm_mem 1126 (by decide +kernel) rfl
theorem kw_1128 : (Jvm.Cond.instanceMethod ({ cls := "StandUpBookModel", name := "heightOf", desc := "(II)I" } : Jvm.MethodName)) ∈ pm_tbl := pm_mem 1128 (by decide +kernel) rfl
theorem kv_56 : (Jvm.Cond.selects "StandUpBookModel" ({ cls := "StandUpBookModel", name := "heightOf", desc := "(II)I" } : Jvm.MethodName) ({ cls := "StandUpBookModel", name := "heightOf", desc := "(II)I" } : Jvm.MethodName)) ∈ pm_tbl := pm_mems 56 (by decide +kernel) rfl
theorem kw_1023 : (Jvm.Cond.methodLink "StandUpBookModel" (222 : Nat) ({ cls := "StandUpBookModel", name := "lays", desc := "([II)V" } : Jvm.MethodName)) ∈ pm_tbl := pm_mem 1023 (by decide +kernel) rfl
theorem kw_1025 : (Jvm.Cond.instanceMethod ({ cls := "StandUpBookModel", name := "lays", desc := "([II)V" } : Jvm.MethodName)) ∈ pm_tbl := pm_mem 1025 (by decide +kernel) rfl
theorem kv_35 : (Jvm.Cond.selects "StandUpBookModel" ({ cls := "StandUpBookModel", name := "lays", desc := "([II)V" } : Jvm.MethodName) ({ cls := "StandUpBookModel", name := "lays", desc := "([II)V" } : Jvm.MethodName)) ∈ pm_tbl := pm_mems 35 (by decide +kernel) rfl
theorem kw_1089 : (Jvm.Cond.static ({ cls := "StandUpBookModel", name := "lesser", desc := "(II)I" } : Jvm.MethodName)) ∈ pm_tbl := pm_mem 1089 (by decide +kernel) rfl
theorem kw_1088 : (Jvm.Cond.methodLink "StandUpBookModel" (225 : Nat) ({ cls := "StandUpBookModel", name := "lesser", desc := "(II)I" } : Jvm.MethodName)) ∈ pm_tbl := pm_mem 1088 (by decide +kernel) rfl
theorem kw_1112 : (Jvm.Cond.static ({ cls := "StandUpBookModel", name := "isOpening", desc := "(I)Z" } : Jvm.MethodName)) ∈ pm_tbl := pm_mem 1112 (by decide +kernel) rfl
theorem kw_1111 : (Jvm.Cond.methodLink "StandUpBookModel" (228 : Nat) ({ cls := "StandUpBookModel", name := "isOpening", desc := "(I)Z" } : Jvm.MethodName)) ∈ pm_tbl := pm_mem 1111 (by decide +kernel) rfl
theorem kw_1114 : (Jvm.Cond.methodLink "StandUpBookModel" (231 : Nat) ({ cls := "StandUpBookModel", name := "no", desc := "()I" } : Jvm.MethodName)) ∈ pm_tbl := pm_mem 1114 (by decide +kernel) rfl
theorem kw_1116 : (Jvm.Cond.instanceMethod ({ cls := "StandUpBookModel", name := "no", desc := "()I" } : Jvm.MethodName)) ∈ pm_tbl := pm_mem 1116 (by decide +kernel) rfl
theorem kv_53 : (Jvm.Cond.selects "StandUpBookModel" ({ cls := "StandUpBookModel", name := "no", desc := "()I" } : Jvm.MethodName) ({ cls := "StandUpBookModel", name := "no", desc := "()I" } : Jvm.MethodName)) ∈ pm_tbl := pm_mems 53 (by decide +kernel) rfl
theorem kw_1118 : (Jvm.Cond.methodLink "StandUpBookModel" (234 : Nat) ({ cls := "StandUpBookModel", name := "notes", desc := "()V" } : Jvm.MethodName)) ∈ pm_tbl := pm_mem 1118 (by decide +kernel) rfl
theorem kw_1120 : (Jvm.Cond.instanceMethod ({ cls := "StandUpBookModel", name := "notes", desc := "()V" } : Jvm.MethodName)) ∈ pm_tbl := pm_mem 1120 (by decide +kernel) rfl
theorem kv_54 : (Jvm.Cond.selects "StandUpBookModel" ({ cls := "StandUpBookModel", name := "notes", desc := "()V" } : Jvm.MethodName) ({ cls := "StandUpBookModel", name := "notes", desc := "()V" } : Jvm.MethodName)) ∈ pm_tbl := pm_mems 54 (by decide +kernel) rfl
theorem kw_1122 : (Jvm.Cond.methodLink "StandUpBookModel" (237 : Nat) ({ cls := "StandUpBookModel", name := "seenAt", desc := "(I)I" } : Jvm.MethodName)) ∈ pm_tbl := pm_mem 1122 (by decide +kernel) rfl
theorem kw_1124 : (Jvm.Cond.instanceMethod ({ cls := "StandUpBookModel", name := "seenAt", desc := "(I)I" } : Jvm.MethodName)) ∈ pm_tbl := pm_mem 1124 (by decide +kernel) rfl
theorem kv_55 : (Jvm.Cond.selects "StandUpBookModel" ({ cls := "StandUpBookModel", name := "seenAt", desc := "(I)I" } : Jvm.MethodName) ({ cls := "StandUpBookModel", name := "seenAt", desc := "(I)I" } : Jvm.MethodName)) ∈ pm_tbl := pm_mems 55 (by decide +kernel) rfl
theorem kw_1144 : (Jvm.Cond.methodLink "StandUpBookModel" (240 : Nat) ({ cls := "StandUpBookModel", name := "isPiece", desc := "(I)Z" } : Jvm.MethodName)) ∈ pm_tbl := pm_mem 1144 (by decide +kernel) rfl
theorem kw_1146 : (Jvm.Cond.instanceMethod ({ cls := "StandUpBookModel", name := "isPiece", desc := "(I)Z" } : Jvm.MethodName)) ∈ pm_tbl := pm_mem 1146 (by decide +kernel) rfl
theorem kv_58 : (Jvm.Cond.selects "StandUpBookModel" ({ cls := "StandUpBookModel", name := "isPiece", desc := "(I)Z" } : Jvm.MethodName) ({ cls := "StandUpBookModel", name := "isPiece", desc := "(I)Z" } : Jvm.MethodName)) ∈ pm_tbl := pm_mems 58 (by decide +kernel) rfl
theorem kw_1103 : (Jvm.Cond.methodLink "StandUpBookModel" (243 : Nat) ({ cls := "StandUpBookModel", name := "takes", desc := "([II)V" } : Jvm.MethodName)) ∈ pm_tbl := pm_mem 1103 (by decide +kernel) rfl
theorem kw_1105 : (Jvm.Cond.instanceMethod ({ cls := "StandUpBookModel", name := "takes", desc := "([II)V" } : Jvm.MethodName)) ∈ pm_tbl := pm_mem 1105 (by decide +kernel) rfl
theorem kv_52 : (Jvm.Cond.selects "StandUpBookModel" ({ cls := "StandUpBookModel", name := "takes", desc := "([II)V" } : Jvm.MethodName) ({ cls := "StandUpBookModel", name := "takes", desc := "([II)V" } : Jvm.MethodName)) ∈ pm_tbl := pm_mems 52 (by decide +kernel) rfl
theorem kw_1164 : (Jvm.Cond.methodLink "StandUpBookModel" (246 : Nat) ({ cls := "StandUpBookModel", name := "reach", desc := "(I)I" } : Jvm.MethodName)) ∈ pm_tbl := pm_mem 1164 (by decide +kernel) rfl
theorem kw_1166 : (Jvm.Cond.instanceMethod ({ cls := "StandUpBookModel", name := "reach", desc := "(I)I" } : Jvm.MethodName)) ∈ pm_tbl := pm_mem 1166 (by decide +kernel) rfl
theorem kv_59 : (Jvm.Cond.selects "StandUpBookModel" ({ cls := "StandUpBookModel", name := "reach", desc := "(I)I" } : Jvm.MethodName) ({ cls := "StandUpBookModel", name := "reach", desc := "(I)I" } : Jvm.MethodName)) ∈ pm_tbl := pm_mems 59 (by decide +kernel) rfl
theorem kw_1185 : (Jvm.Cond.static ({ cls := "StandUpBookModel", name := "bits", desc := "(I)I" } : Jvm.MethodName)) ∈ pm_tbl := pm_mem 1185 (by decide +kernel) rfl
theorem kw_1184 : (Jvm.Cond.methodLink "StandUpBookModel" (249 : Nat) ({ cls := "StandUpBookModel", name := "bits", desc := "(I)I" } : Jvm.MethodName)) ∈ pm_tbl := pm_mem 1184 (by decide +kernel) rfl
theorem kw_1188 : (Jvm.Cond.static ({ cls := "StandUpBookModel", name := "greater", desc := "(II)I" } : Jvm.MethodName)) ∈ pm_tbl := pm_mem 1188 (by decide +kernel) rfl
theorem kw_1187 : (Jvm.Cond.methodLink "StandUpBookModel" (252 : Nat) ({ cls := "StandUpBookModel", name := "greater", desc := "(II)I" } : Jvm.MethodName)) ∈ pm_tbl := pm_mem 1187 (by decide +kernel) rfl
theorem kw_1194 : (Jvm.Cond.methodLink "StandUpBookModel" (255 : Nat) ({ cls := "StandUpBookModel", name := "reachAll", desc := "(I)I" } : Jvm.MethodName)) ∈ pm_tbl := pm_mem 1194 (by decide +kernel) rfl
theorem kw_1196 : (Jvm.Cond.instanceMethod ({ cls := "StandUpBookModel", name := "reachAll", desc := "(I)I" } : Jvm.MethodName)) ∈ pm_tbl := pm_mem 1196 (by decide +kernel) rfl
theorem kv_60 : (Jvm.Cond.selects "StandUpBookModel" ({ cls := "StandUpBookModel", name := "reachAll", desc := "(I)I" } : Jvm.MethodName) ({ cls := "StandUpBookModel", name := "reachAll", desc := "(I)I" } : Jvm.MethodName)) ∈ pm_tbl := pm_mems 60 (by decide +kernel) rfl
theorem kw_1223 : (Jvm.Cond.methodLink "StandUpBookModel" (261 : Nat) ({ cls := "StandUpBookModel", name := "walkTo", desc := "(I)V" } : Jvm.MethodName)) ∈ pm_tbl := pm_mem 1223 (by decide +kernel) rfl
theorem kw_1225 : (Jvm.Cond.instanceMethod ({ cls := "StandUpBookModel", name := "walkTo", desc := "(I)V" } : Jvm.MethodName)) ∈ pm_tbl := pm_mem 1225 (by decide +kernel) rfl
theorem kv_66 : (Jvm.Cond.selects "StandUpBookModel" ({ cls := "StandUpBookModel", name := "walkTo", desc := "(I)V" } : Jvm.MethodName) ({ cls := "StandUpBookModel", name := "walkTo", desc := "(I)V" } : Jvm.MethodName)) ∈ pm_tbl := pm_mems 66 (by decide +kernel) rfl
theorem kw_1202 : (Jvm.Cond.methodLink "StandUpBookModel" (264 : Nat) ({ cls := "StandUpBookModel", name := "isSet", desc := "(I)Z" } : Jvm.MethodName)) ∈ pm_tbl := pm_mem 1202 (by decide +kernel) rfl
theorem kw_1204 : (Jvm.Cond.instanceMethod ({ cls := "StandUpBookModel", name := "isSet", desc := "(I)Z" } : Jvm.MethodName)) ∈ pm_tbl := pm_mem 1204 (by decide +kernel) rfl
theorem kv_61 : (Jvm.Cond.selects "StandUpBookModel" ({ cls := "StandUpBookModel", name := "isSet", desc := "(I)Z" } : Jvm.MethodName) ({ cls := "StandUpBookModel", name := "isSet", desc := "(I)Z" } : Jvm.MethodName)) ∈ pm_tbl := pm_mems 61 (by decide +kernel) rfl
theorem kw_1206 : (Jvm.Cond.methodLink "StandUpBookModel" (267 : Nat) ({ cls := "StandUpBookModel", name := "ten", desc := "()I" } : Jvm.MethodName)) ∈ pm_tbl := pm_mem 1206 (by decide +kernel) rfl
theorem kw_1208 : (Jvm.Cond.instanceMethod ({ cls := "StandUpBookModel", name := "ten", desc := "()I" } : Jvm.MethodName)) ∈ pm_tbl := pm_mem 1208 (by decide +kernel) rfl
theorem kv_62 : (Jvm.Cond.selects "StandUpBookModel" ({ cls := "StandUpBookModel", name := "ten", desc := "()I" } : Jvm.MethodName) ({ cls := "StandUpBookModel", name := "ten", desc := "()I" } : Jvm.MethodName)) ∈ pm_tbl := pm_mems 62 (by decide +kernel) rfl
theorem kw_1210 : (Jvm.Cond.methodLink "StandUpBookModel" (270 : Nat) ({ cls := "StandUpBookModel", name := "setSeen", desc := "()V" } : Jvm.MethodName)) ∈ pm_tbl := pm_mem 1210 (by decide +kernel) rfl
theorem kw_1212 : (Jvm.Cond.instanceMethod ({ cls := "StandUpBookModel", name := "setSeen", desc := "()V" } : Jvm.MethodName)) ∈ pm_tbl := pm_mem 1212 (by decide +kernel) rfl
theorem kv_63 : (Jvm.Cond.selects "StandUpBookModel" ({ cls := "StandUpBookModel", name := "setSeen", desc := "()V" } : Jvm.MethodName) ({ cls := "StandUpBookModel", name := "setSeen", desc := "()V" } : Jvm.MethodName)) ∈ pm_tbl := pm_mems 63 (by decide +kernel) rfl
theorem kw_1215 : (Jvm.Cond.methodLink "StandUpBookModel" (274 : Nat) ({ cls := "StandUpBookModel", name := "isToured", desc := "(III)Z" } : Jvm.MethodName)) ∈ pm_tbl := pm_mem 1215 (by decide +kernel) rfl
theorem kw_1217 : (Jvm.Cond.instanceMethod ({ cls := "StandUpBookModel", name := "isToured", desc := "(III)Z" } : Jvm.MethodName)) ∈ pm_tbl := pm_mem 1217 (by decide +kernel) rfl
theorem kv_64 : (Jvm.Cond.selects "StandUpBookModel" ({ cls := "StandUpBookModel", name := "isToured", desc := "(III)Z" } : Jvm.MethodName) ({ cls := "StandUpBookModel", name := "isToured", desc := "(III)Z" } : Jvm.MethodName)) ∈ pm_tbl := pm_mems 64 (by decide +kernel) rfl
theorem kw_1219 : (Jvm.Cond.methodLink "StandUpBookModel" (277 : Nat) ({ cls := "StandUpBookModel", name := "setWalk", desc := "(II)V" } : Jvm.MethodName)) ∈ pm_tbl := pm_mem 1219 (by decide +kernel) rfl
theorem kw_1221 : (Jvm.Cond.instanceMethod ({ cls := "StandUpBookModel", name := "setWalk", desc := "(II)V" } : Jvm.MethodName)) ∈ pm_tbl := pm_mem 1221 (by decide +kernel) rfl
theorem kv_65 : (Jvm.Cond.selects "StandUpBookModel" ({ cls := "StandUpBookModel", name := "setWalk", desc := "(II)V" } : Jvm.MethodName) ({ cls := "StandUpBookModel", name := "setWalk", desc := "(II)V" } : Jvm.MethodName)) ∈ pm_tbl := pm_mems 65 (by decide +kernel) rfl
theorem kw_1227 : (Jvm.Cond.methodLink "StandUpBookModel" (281 : Nat) ({ cls := "StandUpBookModel", name := "isSooner", desc := "(I)Z" } : Jvm.MethodName)) ∈ pm_tbl := pm_mem 1227 (by decide +kernel) rfl
theorem kw_1229 : (Jvm.Cond.instanceMethod ({ cls := "StandUpBookModel", name := "isSooner", desc := "(I)Z" } : Jvm.MethodName)) ∈ pm_tbl := pm_mem 1229 (by decide +kernel) rfl
theorem kv_67 : (Jvm.Cond.selects "StandUpBookModel" ({ cls := "StandUpBookModel", name := "isSooner", desc := "(I)Z" } : Jvm.MethodName) ({ cls := "StandUpBookModel", name := "isSooner", desc := "(I)Z" } : Jvm.MethodName)) ∈ pm_tbl := pm_mems 67 (by decide +kernel) rfl
theorem kw_1239 : (Jvm.Cond.methodLink "StandUpBookModel" (284 : Nat) ({ cls := "StandUpBookModel", name := "isWornBy", desc := "(I)Z" } : Jvm.MethodName)) ∈ pm_tbl := pm_mem 1239 (by decide +kernel) rfl
theorem kw_1241 : (Jvm.Cond.instanceMethod ({ cls := "StandUpBookModel", name := "isWornBy", desc := "(I)Z" } : Jvm.MethodName)) ∈ pm_tbl := pm_mem 1241 (by decide +kernel) rfl
theorem kv_68 : (Jvm.Cond.selects "StandUpBookModel" ({ cls := "StandUpBookModel", name := "isWornBy", desc := "(I)Z" } : Jvm.MethodName) ({ cls := "StandUpBookModel", name := "isWornBy", desc := "(I)Z" } : Jvm.MethodName)) ∈ pm_tbl := pm_mems 68 (by decide +kernel) rfl
theorem kw_1247 : (Jvm.Cond.methodLink "StandUpBookModel" (287 : Nat) ({ cls := "StandUpBookModel", name := "goesFrom", desc := "(III)I" } : Jvm.MethodName)) ∈ pm_tbl := pm_mem 1247 (by decide +kernel) rfl
theorem kw_1249 : (Jvm.Cond.instanceMethod ({ cls := "StandUpBookModel", name := "goesFrom", desc := "(III)I" } : Jvm.MethodName)) ∈ pm_tbl := pm_mem 1249 (by decide +kernel) rfl
theorem kv_69 : (Jvm.Cond.selects "StandUpBookModel" ({ cls := "StandUpBookModel", name := "goesFrom", desc := "(III)I" } : Jvm.MethodName) ({ cls := "StandUpBookModel", name := "goesFrom", desc := "(III)I" } : Jvm.MethodName)) ∈ pm_tbl := pm_mems 69 (by decide +kernel) rfl
theorem kw_1267 : (Jvm.Cond.methodLink "StandUpBookModel" (291 : Nat) ({ cls := "StandUpBookModel", name := "kindsOf", desc := "(I)I" } : Jvm.MethodName)) ∈ pm_tbl := pm_mem 1267 (by decide +kernel) rfl
theorem kw_1269 : (Jvm.Cond.instanceMethod ({ cls := "StandUpBookModel", name := "kindsOf", desc := "(I)I" } : Jvm.MethodName)) ∈ pm_tbl := pm_mem 1269 (by decide +kernel) rfl
theorem kv_70 : (Jvm.Cond.selects "StandUpBookModel" ({ cls := "StandUpBookModel", name := "kindsOf", desc := "(I)I" } : Jvm.MethodName) ({ cls := "StandUpBookModel", name := "kindsOf", desc := "(I)I" } : Jvm.MethodName)) ∈ pm_tbl := pm_mems 70 (by decide +kernel) rfl
theorem kw_1276 : (Jvm.Cond.static ({ cls := "StandUpBookModel", name := "alike", desc := "(IIII)I" } : Jvm.MethodName)) ∈ pm_tbl := pm_mem 1276 (by decide +kernel) rfl
theorem kw_1275 : (Jvm.Cond.methodLink "StandUpBookModel" (294 : Nat) ({ cls := "StandUpBookModel", name := "alike", desc := "(IIII)I" } : Jvm.MethodName)) ∈ pm_tbl := pm_mem 1275 (by decide +kernel) rfl
theorem kw_1282 : (Jvm.Cond.methodLink "StandUpBookModel" (297 : Nat) ({ cls := "StandUpBookModel", name := "isStood", desc := "()Z" } : Jvm.MethodName)) ∈ pm_tbl := pm_mem 1282 (by decide +kernel) rfl
theorem kw_1284 : (Jvm.Cond.instanceMethod ({ cls := "StandUpBookModel", name := "isStood", desc := "()Z" } : Jvm.MethodName)) ∈ pm_tbl := pm_mem 1284 (by decide +kernel) rfl
theorem kv_71 : (Jvm.Cond.selects "StandUpBookModel" ({ cls := "StandUpBookModel", name := "isStood", desc := "()Z" } : Jvm.MethodName) ({ cls := "StandUpBookModel", name := "isStood", desc := "()Z" } : Jvm.MethodName)) ∈ pm_tbl := pm_mems 71 (by decide +kernel) rfl
theorem kw_1294 : (Jvm.Cond.methodLink "StandUpBookModel" (300 : Nat) ({ cls := "StandUpBookModel", name := "firstGets", desc := "(II)I" } : Jvm.MethodName)) ∈ pm_tbl := pm_mem 1294 (by decide +kernel) rfl
theorem kw_1296 : (Jvm.Cond.instanceMethod ({ cls := "StandUpBookModel", name := "firstGets", desc := "(II)I" } : Jvm.MethodName)) ∈ pm_tbl := pm_mem 1296 (by decide +kernel) rfl
theorem kv_73 : (Jvm.Cond.selects "StandUpBookModel" ({ cls := "StandUpBookModel", name := "firstGets", desc := "(II)I" } : Jvm.MethodName) ({ cls := "StandUpBookModel", name := "firstGets", desc := "(II)I" } : Jvm.MethodName)) ∈ pm_tbl := pm_mems 73 (by decide +kernel) rfl
theorem kw_1298 : (Jvm.Cond.methodLink "StandUpBookModel" (303 : Nat) ({ cls := "StandUpBookModel", name := "secondGets", desc := "(II)I" } : Jvm.MethodName)) ∈ pm_tbl := pm_mem 1298 (by decide +kernel) rfl
theorem kw_1300 : (Jvm.Cond.instanceMethod ({ cls := "StandUpBookModel", name := "secondGets", desc := "(II)I" } : Jvm.MethodName)) ∈ pm_tbl := pm_mem 1300 (by decide +kernel) rfl
theorem kv_74 : (Jvm.Cond.selects "StandUpBookModel" ({ cls := "StandUpBookModel", name := "secondGets", desc := "(II)I" } : Jvm.MethodName) ({ cls := "StandUpBookModel", name := "secondGets", desc := "(II)I" } : Jvm.MethodName)) ∈ pm_tbl := pm_mems 74 (by decide +kernel) rfl
theorem kw_1290 : (Jvm.Cond.methodLink "StandUpBookModel" (306 : Nat) ({ cls := "StandUpBookModel", name := "rests", desc := "(II)Z" } : Jvm.MethodName)) ∈ pm_tbl := pm_mem 1290 (by decide +kernel) rfl
theorem kw_1292 : (Jvm.Cond.instanceMethod ({ cls := "StandUpBookModel", name := "rests", desc := "(II)Z" } : Jvm.MethodName)) ∈ pm_tbl := pm_mem 1292 (by decide +kernel) rfl
theorem kv_72 : (Jvm.Cond.selects "StandUpBookModel" ({ cls := "StandUpBookModel", name := "rests", desc := "(II)Z" } : Jvm.MethodName) ({ cls := "StandUpBookModel", name := "rests", desc := "(II)Z" } : Jvm.MethodName)) ∈ pm_tbl := pm_mems 72 (by decide +kernel) rfl
theorem kw_1307 : (Jvm.Cond.methodLink "StandUpBookModel" (314 : Nat) ({ cls := "StandUpBookModel", name := "lay", desc := "(JJ)V" } : Jvm.MethodName)) ∈ pm_tbl := pm_mem 1307 (by decide +kernel) rfl
theorem kw_1309 : (Jvm.Cond.instanceMethod ({ cls := "StandUpBookModel", name := "lay", desc := "(JJ)V" } : Jvm.MethodName)) ∈ pm_tbl := pm_mem 1309 (by decide +kernel) rfl
theorem kv_75 : (Jvm.Cond.selects "StandUpBookModel" ({ cls := "StandUpBookModel", name := "lay", desc := "(JJ)V" } : Jvm.MethodName) ({ cls := "StandUpBookModel", name := "lay", desc := "(JJ)V" } : Jvm.MethodName)) ∈ pm_tbl := pm_mems 75 (by decide +kernel) rfl
theorem kw_1345 : (Jvm.Cond.methodLink "StandUpBookModel" (329 : Nat) ({ cls := "StandUpBookModel", name := "stuckMany", desc := "()I" } : Jvm.MethodName)) ∈ pm_tbl := pm_mem 1345 (by decide +kernel) rfl
theorem kw_1347 : (Jvm.Cond.instanceMethod ({ cls := "StandUpBookModel", name := "stuckMany", desc := "()I" } : Jvm.MethodName)) ∈ pm_tbl := pm_mem 1347 (by decide +kernel) rfl
theorem kv_77 : (Jvm.Cond.selects "StandUpBookModel" ({ cls := "StandUpBookModel", name := "stuckMany", desc := "()I" } : Jvm.MethodName) ({ cls := "StandUpBookModel", name := "stuckMany", desc := "()I" } : Jvm.MethodName)) ∈ pm_tbl := pm_mems 77 (by decide +kernel) rfl
theorem kw_1349 : (Jvm.Cond.methodLink "StandUpBookModel" (332 : Nat) ({ cls := "StandUpBookModel", name := "wearAll", desc := "()I" } : Jvm.MethodName)) ∈ pm_tbl := pm_mem 1349 (by decide +kernel) rfl
theorem kw_1351 : (Jvm.Cond.instanceMethod ({ cls := "StandUpBookModel", name := "wearAll", desc := "()I" } : Jvm.MethodName)) ∈ pm_tbl := pm_mem 1351 (by decide +kernel) rfl
theorem kv_78 : (Jvm.Cond.selects "StandUpBookModel" ({ cls := "StandUpBookModel", name := "wearAll", desc := "()I" } : Jvm.MethodName) ({ cls := "StandUpBookModel", name := "wearAll", desc := "()I" } : Jvm.MethodName)) ∈ pm_tbl := pm_mems 78 (by decide +kernel) rfl
theorem kw_1341 : (Jvm.Cond.methodLink "StandUpBookModel" (335 : Nat) ({ cls := "StandUpBookModel", name := "countOf", desc := "(I)I" } : Jvm.MethodName)) ∈ pm_tbl := pm_mem 1341 (by decide +kernel) rfl
theorem kw_1343 : (Jvm.Cond.instanceMethod ({ cls := "StandUpBookModel", name := "countOf", desc := "(I)I" } : Jvm.MethodName)) ∈ pm_tbl := pm_mem 1343 (by decide +kernel) rfl
theorem kv_76 : (Jvm.Cond.selects "StandUpBookModel" ({ cls := "StandUpBookModel", name := "countOf", desc := "(I)I" } : Jvm.MethodName) ({ cls := "StandUpBookModel", name := "countOf", desc := "(I)I" } : Jvm.MethodName)) ∈ pm_tbl := pm_mems 76 (by decide +kernel) rfl
theorem kw_1358 : (Jvm.Cond.methodLink "StandUpBookModel" (345 : Nat) ({ cls := "StandUpBookModel", name := "mix", desc := "(J)V" } : Jvm.MethodName)) ∈ pm_tbl := pm_mem 1358 (by decide +kernel) rfl
theorem kw_1360 : (Jvm.Cond.instanceMethod ({ cls := "StandUpBookModel", name := "mix", desc := "(J)V" } : Jvm.MethodName)) ∈ pm_tbl := pm_mem 1360 (by decide +kernel) rfl
theorem kv_79 : (Jvm.Cond.selects "StandUpBookModel" ({ cls := "StandUpBookModel", name := "mix", desc := "(J)V" } : Jvm.MethodName) ({ cls := "StandUpBookModel", name := "mix", desc := "(J)V" } : Jvm.MethodName)) ∈ pm_tbl := pm_mems 79 (by decide +kernel) rfl
theorem kw_24 : (Jvm.Cond.instanceMethod ({ cls := "StandUpBook", name := "<init>", desc := "()V" } : Jvm.MethodName)) ∈ pm_tbl := pm_mem 24 (by decide +kernel) rfl
theorem kw_23 : (Jvm.Cond.methodLink "StandUpBookLaw" (9 : Nat) ({ cls := "StandUpBook", name := "<init>", desc := "()V" } : Jvm.MethodName)) ∈ pm_tbl := pm_mem 23 (by decide +kernel) rfl
theorem kw_856 : (Jvm.Cond.instanceMethod ({ cls := "StandUpBookModel", name := "<init>", desc := "()V" } : Jvm.MethodName)) ∈ pm_tbl := pm_mem 856 (by decide +kernel) rfl
theorem kw_855 : (Jvm.Cond.methodLink "StandUpBookLaw" (12 : Nat) ({ cls := "StandUpBookModel", name := "<init>", desc := "()V" } : Jvm.MethodName)) ∈ pm_tbl := pm_mem 855 (by decide +kernel) rfl
theorem kw_281 : (Jvm.Cond.methodLink "StandUpBookLaw" (13 : Nat) ({ cls := "StandUpBook", name := "book", desc := "(I)I" } : Jvm.MethodName)) ∈ pm_tbl := pm_mem 281 (by decide +kernel) rfl
theorem kw_282 : (Jvm.Cond.instanceMethod ({ cls := "StandUpBook", name := "book", desc := "(I)I" } : Jvm.MethodName)) ∈ pm_tbl := pm_mem 282 (by decide +kernel) rfl
theorem kw_283 : (Jvm.Cond.selects "StandUpBook" ({ cls := "StandUpBook", name := "book", desc := "(I)I" } : Jvm.MethodName) ({ cls := "StandUpBook", name := "book", desc := "(I)I" } : Jvm.MethodName)) ∈ pm_tbl := pm_mem 283 (by decide +kernel) rfl
theorem kw_984 : (Jvm.Cond.methodLink "StandUpBookLaw" (17 : Nat) ({ cls := "StandUpBookModel", name := "book", desc := "(I)I" } : Jvm.MethodName)) ∈ pm_tbl := pm_mem 984 (by decide +kernel) rfl
theorem kw_985 : (Jvm.Cond.instanceMethod ({ cls := "StandUpBookModel", name := "book", desc := "(I)I" } : Jvm.MethodName)) ∈ pm_tbl := pm_mem 985 (by decide +kernel) rfl
theorem kw_986 : (Jvm.Cond.selects "StandUpBookModel" ({ cls := "StandUpBookModel", name := "book", desc := "(I)I" } : Jvm.MethodName) ({ cls := "StandUpBookModel", name := "book", desc := "(I)I" } : Jvm.MethodName)) ∈ pm_tbl := pm_mem 986 (by decide +kernel) rfl
theorem kw_300 : (Jvm.Cond.methodLink "StandUpBookLaw" (18 : Nat) ({ cls := "StandUpBook", name := "piece", desc := "(IIIII)I" } : Jvm.MethodName)) ∈ pm_tbl := pm_mem 300 (by decide +kernel) rfl
theorem kw_301 : (Jvm.Cond.instanceMethod ({ cls := "StandUpBook", name := "piece", desc := "(IIIII)I" } : Jvm.MethodName)) ∈ pm_tbl := pm_mem 301 (by decide +kernel) rfl
theorem kw_302 : (Jvm.Cond.selects "StandUpBook" ({ cls := "StandUpBook", name := "piece", desc := "(IIIII)I" } : Jvm.MethodName) ({ cls := "StandUpBook", name := "piece", desc := "(IIIII)I" } : Jvm.MethodName)) ∈ pm_tbl := pm_mem 302 (by decide +kernel) rfl
theorem kw_995 : (Jvm.Cond.methodLink "StandUpBookLaw" (22 : Nat) ({ cls := "StandUpBookModel", name := "piece", desc := "(IIIII)I" } : Jvm.MethodName)) ∈ pm_tbl := pm_mem 995 (by decide +kernel) rfl
theorem kw_996 : (Jvm.Cond.instanceMethod ({ cls := "StandUpBookModel", name := "piece", desc := "(IIIII)I" } : Jvm.MethodName)) ∈ pm_tbl := pm_mem 996 (by decide +kernel) rfl
theorem kw_997 : (Jvm.Cond.selects "StandUpBookModel" ({ cls := "StandUpBookModel", name := "piece", desc := "(IIIII)I" } : Jvm.MethodName) ({ cls := "StandUpBookModel", name := "piece", desc := "(IIIII)I" } : Jvm.MethodName)) ∈ pm_tbl := pm_mem 997 (by decide +kernel) rfl
theorem kw_338 : (Jvm.Cond.methodLink "StandUpBookLaw" (23 : Nat) ({ cls := "StandUpBook", name := "type", desc := "(I)I" } : Jvm.MethodName)) ∈ pm_tbl := pm_mem 338 (by decide +kernel) rfl
theorem kw_339 : (Jvm.Cond.instanceMethod ({ cls := "StandUpBook", name := "type", desc := "(I)I" } : Jvm.MethodName)) ∈ pm_tbl := pm_mem 339 (by decide +kernel) rfl
theorem kw_340 : (Jvm.Cond.selects "StandUpBook" ({ cls := "StandUpBook", name := "type", desc := "(I)I" } : Jvm.MethodName) ({ cls := "StandUpBook", name := "type", desc := "(I)I" } : Jvm.MethodName)) ∈ pm_tbl := pm_mem 340 (by decide +kernel) rfl
theorem kw_1007 : (Jvm.Cond.methodLink "StandUpBookLaw" (26 : Nat) ({ cls := "StandUpBookModel", name := "type", desc := "(I)I" } : Jvm.MethodName)) ∈ pm_tbl := pm_mem 1007 (by decide +kernel) rfl
theorem kw_1008 : (Jvm.Cond.instanceMethod ({ cls := "StandUpBookModel", name := "type", desc := "(I)I" } : Jvm.MethodName)) ∈ pm_tbl := pm_mem 1008 (by decide +kernel) rfl
theorem kw_1009 : (Jvm.Cond.selects "StandUpBookModel" ({ cls := "StandUpBookModel", name := "type", desc := "(I)I" } : Jvm.MethodName) ({ cls := "StandUpBookModel", name := "type", desc := "(I)I" } : Jvm.MethodName)) ∈ pm_tbl := pm_mem 1009 (by decide +kernel) rfl
theorem kw_346 : (Jvm.Cond.methodLink "StandUpBookLaw" (27 : Nat) ({ cls := "StandUpBook", name := "clear", desc := "()I" } : Jvm.MethodName)) ∈ pm_tbl := pm_mem 346 (by decide +kernel) rfl
theorem kw_347 : (Jvm.Cond.instanceMethod ({ cls := "StandUpBook", name := "clear", desc := "()I" } : Jvm.MethodName)) ∈ pm_tbl := pm_mem 347 (by decide +kernel) rfl
theorem kw_348 : (Jvm.Cond.selects "StandUpBook" ({ cls := "StandUpBook", name := "clear", desc := "()I" } : Jvm.MethodName) ({ cls := "StandUpBook", name := "clear", desc := "()I" } : Jvm.MethodName)) ∈ pm_tbl := pm_mem 348 (by decide +kernel) rfl
theorem kw_1011 : (Jvm.Cond.methodLink "StandUpBookLaw" (31 : Nat) ({ cls := "StandUpBookModel", name := "clear", desc := "()I" } : Jvm.MethodName)) ∈ pm_tbl := pm_mem 1011 (by decide +kernel) rfl
theorem kw_1012 : (Jvm.Cond.instanceMethod ({ cls := "StandUpBookModel", name := "clear", desc := "()I" } : Jvm.MethodName)) ∈ pm_tbl := pm_mem 1012 (by decide +kernel) rfl
theorem kw_1013 : (Jvm.Cond.selects "StandUpBookModel" ({ cls := "StandUpBookModel", name := "clear", desc := "()I" } : Jvm.MethodName) ({ cls := "StandUpBookModel", name := "clear", desc := "()I" } : Jvm.MethodName)) ∈ pm_tbl := pm_mem 1013 (by decide +kernel) rfl
theorem kw_350 : (Jvm.Cond.methodLink "StandUpBookLaw" (32 : Nat) ({ cls := "StandUpBook", name := "read", desc := "()I" } : Jvm.MethodName)) ∈ pm_tbl := pm_mem 350 (by decide +kernel) rfl
theorem kw_351 : (Jvm.Cond.instanceMethod ({ cls := "StandUpBook", name := "read", desc := "()I" } : Jvm.MethodName)) ∈ pm_tbl := pm_mem 351 (by decide +kernel) rfl
theorem kw_352 : (Jvm.Cond.selects "StandUpBook" ({ cls := "StandUpBook", name := "read", desc := "()I" } : Jvm.MethodName) ({ cls := "StandUpBook", name := "read", desc := "()I" } : Jvm.MethodName)) ∈ pm_tbl := pm_mem 352 (by decide +kernel) rfl
theorem kw_1015 : (Jvm.Cond.methodLink "StandUpBookLaw" (35 : Nat) ({ cls := "StandUpBookModel", name := "read", desc := "()I" } : Jvm.MethodName)) ∈ pm_tbl := pm_mem 1015 (by decide +kernel) rfl
theorem kw_1016 : (Jvm.Cond.instanceMethod ({ cls := "StandUpBookModel", name := "read", desc := "()I" } : Jvm.MethodName)) ∈ pm_tbl := pm_mem 1016 (by decide +kernel) rfl
theorem kw_1017 : (Jvm.Cond.selects "StandUpBookModel" ({ cls := "StandUpBookModel", name := "read", desc := "()I" } : Jvm.MethodName) ({ cls := "StandUpBookModel", name := "read", desc := "()I" } : Jvm.MethodName)) ∈ pm_tbl := pm_mem 1017 (by decide +kernel) rfl
theorem kw_480 : (Jvm.Cond.methodLink "StandUpBookLaw" (36 : Nat) ({ cls := "StandUpBook", name := "opens", desc := "(I)I" } : Jvm.MethodName)) ∈ pm_tbl := pm_mem 480 (by decide +kernel) rfl
theorem kw_481 : (Jvm.Cond.instanceMethod ({ cls := "StandUpBook", name := "opens", desc := "(I)I" } : Jvm.MethodName)) ∈ pm_tbl := pm_mem 481 (by decide +kernel) rfl
theorem kw_482 : (Jvm.Cond.selects "StandUpBook" ({ cls := "StandUpBook", name := "opens", desc := "(I)I" } : Jvm.MethodName) ({ cls := "StandUpBook", name := "opens", desc := "(I)I" } : Jvm.MethodName)) ∈ pm_tbl := pm_mem 482 (by decide +kernel) rfl
theorem kw_1107 : (Jvm.Cond.methodLink "StandUpBookLaw" (39 : Nat) ({ cls := "StandUpBookModel", name := "opens", desc := "(I)I" } : Jvm.MethodName)) ∈ pm_tbl := pm_mem 1107 (by decide +kernel) rfl
theorem kw_1108 : (Jvm.Cond.instanceMethod ({ cls := "StandUpBookModel", name := "opens", desc := "(I)I" } : Jvm.MethodName)) ∈ pm_tbl := pm_mem 1108 (by decide +kernel) rfl
theorem kw_1109 : (Jvm.Cond.selects "StandUpBookModel" ({ cls := "StandUpBookModel", name := "opens", desc := "(I)I" } : Jvm.MethodName) ({ cls := "StandUpBookModel", name := "opens", desc := "(I)I" } : Jvm.MethodName)) ∈ pm_tbl := pm_mem 1109 (by decide +kernel) rfl
theorem kw_541 : (Jvm.Cond.methodLink "StandUpBookLaw" (40 : Nat) ({ cls := "StandUpBook", name := "pulls", desc := "(II)I" } : Jvm.MethodName)) ∈ pm_tbl := pm_mem 541 (by decide +kernel) rfl
theorem kw_542 : (Jvm.Cond.instanceMethod ({ cls := "StandUpBook", name := "pulls", desc := "(II)I" } : Jvm.MethodName)) ∈ pm_tbl := pm_mem 542 (by decide +kernel) rfl
theorem kw_543 : (Jvm.Cond.selects "StandUpBook" ({ cls := "StandUpBook", name := "pulls", desc := "(II)I" } : Jvm.MethodName) ({ cls := "StandUpBook", name := "pulls", desc := "(II)I" } : Jvm.MethodName)) ∈ pm_tbl := pm_mem 543 (by decide +kernel) rfl
theorem kw_1140 : (Jvm.Cond.methodLink "StandUpBookLaw" (44 : Nat) ({ cls := "StandUpBookModel", name := "pulls", desc := "(II)I" } : Jvm.MethodName)) ∈ pm_tbl := pm_mem 1140 (by decide +kernel) rfl
theorem kw_1141 : (Jvm.Cond.instanceMethod ({ cls := "StandUpBookModel", name := "pulls", desc := "(II)I" } : Jvm.MethodName)) ∈ pm_tbl := pm_mem 1141 (by decide +kernel) rfl
theorem kw_1142 : (Jvm.Cond.selects "StandUpBookModel" ({ cls := "StandUpBookModel", name := "pulls", desc := "(II)I" } : Jvm.MethodName) ({ cls := "StandUpBookModel", name := "pulls", desc := "(II)I" } : Jvm.MethodName)) ∈ pm_tbl := pm_mem 1142 (by decide +kernel) rfl
theorem kw_549 : (Jvm.Cond.methodLink "StandUpBookLaw" (45 : Nat) ({ cls := "StandUpBook", name := "tears", desc := "(I)I" } : Jvm.MethodName)) ∈ pm_tbl := pm_mem 549 (by decide +kernel) rfl
theorem kw_550 : (Jvm.Cond.instanceMethod ({ cls := "StandUpBook", name := "tears", desc := "(I)I" } : Jvm.MethodName)) ∈ pm_tbl := pm_mem 550 (by decide +kernel) rfl
theorem kw_551 : (Jvm.Cond.selects "StandUpBook" ({ cls := "StandUpBook", name := "tears", desc := "(I)I" } : Jvm.MethodName) ({ cls := "StandUpBook", name := "tears", desc := "(I)I" } : Jvm.MethodName)) ∈ pm_tbl := pm_mem 551 (by decide +kernel) rfl
theorem kw_1148 : (Jvm.Cond.methodLink "StandUpBookLaw" (48 : Nat) ({ cls := "StandUpBookModel", name := "tears", desc := "(I)I" } : Jvm.MethodName)) ∈ pm_tbl := pm_mem 1148 (by decide +kernel) rfl
theorem kw_1149 : (Jvm.Cond.instanceMethod ({ cls := "StandUpBookModel", name := "tears", desc := "(I)I" } : Jvm.MethodName)) ∈ pm_tbl := pm_mem 1149 (by decide +kernel) rfl
theorem kw_1150 : (Jvm.Cond.selects "StandUpBookModel" ({ cls := "StandUpBookModel", name := "tears", desc := "(I)I" } : Jvm.MethodName) ({ cls := "StandUpBookModel", name := "tears", desc := "(I)I" } : Jvm.MethodName)) ∈ pm_tbl := pm_mem 1150 (by decide +kernel) rfl
theorem kw_566 : (Jvm.Cond.methodLink "StandUpBookLaw" (49 : Nat) ({ cls := "StandUpBook", name := "undo", desc := "()I" } : Jvm.MethodName)) ∈ pm_tbl := pm_mem 566 (by decide +kernel) rfl
theorem kw_567 : (Jvm.Cond.instanceMethod ({ cls := "StandUpBook", name := "undo", desc := "()I" } : Jvm.MethodName)) ∈ pm_tbl := pm_mem 567 (by decide +kernel) rfl
theorem kw_568 : (Jvm.Cond.selects "StandUpBook" ({ cls := "StandUpBook", name := "undo", desc := "()I" } : Jvm.MethodName) ({ cls := "StandUpBook", name := "undo", desc := "()I" } : Jvm.MethodName)) ∈ pm_tbl := pm_mem 568 (by decide +kernel) rfl
theorem kw_1152 : (Jvm.Cond.methodLink "StandUpBookLaw" (52 : Nat) ({ cls := "StandUpBookModel", name := "undo", desc := "()I" } : Jvm.MethodName)) ∈ pm_tbl := pm_mem 1152 (by decide +kernel) rfl
theorem kw_1153 : (Jvm.Cond.instanceMethod ({ cls := "StandUpBookModel", name := "undo", desc := "()I" } : Jvm.MethodName)) ∈ pm_tbl := pm_mem 1153 (by decide +kernel) rfl
theorem kw_1154 : (Jvm.Cond.selects "StandUpBookModel" ({ cls := "StandUpBookModel", name := "undo", desc := "()I" } : Jvm.MethodName) ({ cls := "StandUpBookModel", name := "undo", desc := "()I" } : Jvm.MethodName)) ∈ pm_tbl := pm_mem 1154 (by decide +kernel) rfl
theorem kw_574 : (Jvm.Cond.methodLink "StandUpBookLaw" (53 : Nat) ({ cls := "StandUpBook", name := "of", desc := "(II)I" } : Jvm.MethodName)) ∈ pm_tbl := pm_mem 574 (by decide +kernel) rfl
theorem kw_575 : (Jvm.Cond.instanceMethod ({ cls := "StandUpBook", name := "of", desc := "(II)I" } : Jvm.MethodName)) ∈ pm_tbl := pm_mem 575 (by decide +kernel) rfl
theorem kw_576 : (Jvm.Cond.selects "StandUpBook" ({ cls := "StandUpBook", name := "of", desc := "(II)I" } : Jvm.MethodName) ({ cls := "StandUpBook", name := "of", desc := "(II)I" } : Jvm.MethodName)) ∈ pm_tbl := pm_mem 576 (by decide +kernel) rfl
theorem kw_1156 : (Jvm.Cond.methodLink "StandUpBookLaw" (56 : Nat) ({ cls := "StandUpBookModel", name := "of", desc := "(II)I" } : Jvm.MethodName)) ∈ pm_tbl := pm_mem 1156 (by decide +kernel) rfl
theorem kw_1157 : (Jvm.Cond.instanceMethod ({ cls := "StandUpBookModel", name := "of", desc := "(II)I" } : Jvm.MethodName)) ∈ pm_tbl := pm_mem 1157 (by decide +kernel) rfl
theorem kw_1158 : (Jvm.Cond.selects "StandUpBookModel" ({ cls := "StandUpBookModel", name := "of", desc := "(II)I" } : Jvm.MethodName) ({ cls := "StandUpBookModel", name := "of", desc := "(II)I" } : Jvm.MethodName)) ∈ pm_tbl := pm_mem 1158 (by decide +kernel) rfl
theorem kw_579 : (Jvm.Cond.methodLink "StandUpBookLaw" (57 : Nat) ({ cls := "StandUpBook", name := "gives", desc := "(III)I" } : Jvm.MethodName)) ∈ pm_tbl := pm_mem 579 (by decide +kernel) rfl
theorem kw_580 : (Jvm.Cond.instanceMethod ({ cls := "StandUpBook", name := "gives", desc := "(III)I" } : Jvm.MethodName)) ∈ pm_tbl := pm_mem 580 (by decide +kernel) rfl
theorem kw_581 : (Jvm.Cond.selects "StandUpBook" ({ cls := "StandUpBook", name := "gives", desc := "(III)I" } : Jvm.MethodName) ({ cls := "StandUpBook", name := "gives", desc := "(III)I" } : Jvm.MethodName)) ∈ pm_tbl := pm_mem 581 (by decide +kernel) rfl
theorem kw_1160 : (Jvm.Cond.methodLink "StandUpBookLaw" (61 : Nat) ({ cls := "StandUpBookModel", name := "gives", desc := "(III)I" } : Jvm.MethodName)) ∈ pm_tbl := pm_mem 1160 (by decide +kernel) rfl
theorem kw_1161 : (Jvm.Cond.instanceMethod ({ cls := "StandUpBookModel", name := "gives", desc := "(III)I" } : Jvm.MethodName)) ∈ pm_tbl := pm_mem 1161 (by decide +kernel) rfl
theorem kw_1162 : (Jvm.Cond.selects "StandUpBookModel" ({ cls := "StandUpBookModel", name := "gives", desc := "(III)I" } : Jvm.MethodName) ({ cls := "StandUpBookModel", name := "gives", desc := "(III)I" } : Jvm.MethodName)) ∈ pm_tbl := pm_mem 1162 (by decide +kernel) rfl
theorem kw_610 : (Jvm.Cond.methodLink "StandUpBookLaw" (62 : Nat) ({ cls := "StandUpBook", name := "height", desc := "(II)I" } : Jvm.MethodName)) ∈ pm_tbl := pm_mem 610 (by decide +kernel) rfl
theorem kw_611 : (Jvm.Cond.instanceMethod ({ cls := "StandUpBook", name := "height", desc := "(II)I" } : Jvm.MethodName)) ∈ pm_tbl := pm_mem 611 (by decide +kernel) rfl
theorem kw_612 : (Jvm.Cond.selects "StandUpBook" ({ cls := "StandUpBook", name := "height", desc := "(II)I" } : Jvm.MethodName) ({ cls := "StandUpBook", name := "height", desc := "(II)I" } : Jvm.MethodName)) ∈ pm_tbl := pm_mem 612 (by decide +kernel) rfl
theorem kw_1168 : (Jvm.Cond.methodLink "StandUpBookLaw" (65 : Nat) ({ cls := "StandUpBookModel", name := "height", desc := "(II)I" } : Jvm.MethodName)) ∈ pm_tbl := pm_mem 1168 (by decide +kernel) rfl
theorem kw_1169 : (Jvm.Cond.instanceMethod ({ cls := "StandUpBookModel", name := "height", desc := "(II)I" } : Jvm.MethodName)) ∈ pm_tbl := pm_mem 1169 (by decide +kernel) rfl
theorem kw_1170 : (Jvm.Cond.selects "StandUpBookModel" ({ cls := "StandUpBookModel", name := "height", desc := "(II)I" } : Jvm.MethodName) ({ cls := "StandUpBookModel", name := "height", desc := "(II)I" } : Jvm.MethodName)) ∈ pm_tbl := pm_mem 1170 (by decide +kernel) rfl
theorem kw_615 : (Jvm.Cond.methodLink "StandUpBookLaw" (66 : Nat) ({ cls := "StandUpBook", name := "seen", desc := "(I)I" } : Jvm.MethodName)) ∈ pm_tbl := pm_mem 615 (by decide +kernel) rfl
theorem kw_616 : (Jvm.Cond.instanceMethod ({ cls := "StandUpBook", name := "seen", desc := "(I)I" } : Jvm.MethodName)) ∈ pm_tbl := pm_mem 616 (by decide +kernel) rfl
theorem kw_617 : (Jvm.Cond.selects "StandUpBook" ({ cls := "StandUpBook", name := "seen", desc := "(I)I" } : Jvm.MethodName) ({ cls := "StandUpBook", name := "seen", desc := "(I)I" } : Jvm.MethodName)) ∈ pm_tbl := pm_mem 617 (by decide +kernel) rfl
theorem kw_1172 : (Jvm.Cond.methodLink "StandUpBookLaw" (69 : Nat) ({ cls := "StandUpBookModel", name := "seen", desc := "(I)I" } : Jvm.MethodName)) ∈ pm_tbl := pm_mem 1172 (by decide +kernel) rfl
theorem kw_1173 : (Jvm.Cond.instanceMethod ({ cls := "StandUpBookModel", name := "seen", desc := "(I)I" } : Jvm.MethodName)) ∈ pm_tbl := pm_mem 1173 (by decide +kernel) rfl
theorem kw_1174 : (Jvm.Cond.selects "StandUpBookModel" ({ cls := "StandUpBookModel", name := "seen", desc := "(I)I" } : Jvm.MethodName) ({ cls := "StandUpBookModel", name := "seen", desc := "(I)I" } : Jvm.MethodName)) ∈ pm_tbl := pm_mem 1174 (by decide +kernel) rfl
theorem kw_619 : (Jvm.Cond.methodLink "StandUpBookLaw" (70 : Nat) ({ cls := "StandUpBook", name := "first", desc := "(I)I" } : Jvm.MethodName)) ∈ pm_tbl := pm_mem 619 (by decide +kernel) rfl
theorem kw_620 : (Jvm.Cond.instanceMethod ({ cls := "StandUpBook", name := "first", desc := "(I)I" } : Jvm.MethodName)) ∈ pm_tbl := pm_mem 620 (by decide +kernel) rfl
theorem kw_621 : (Jvm.Cond.selects "StandUpBook" ({ cls := "StandUpBook", name := "first", desc := "(I)I" } : Jvm.MethodName) ({ cls := "StandUpBook", name := "first", desc := "(I)I" } : Jvm.MethodName)) ∈ pm_tbl := pm_mem 621 (by decide +kernel) rfl
theorem kw_1176 : (Jvm.Cond.methodLink "StandUpBookLaw" (73 : Nat) ({ cls := "StandUpBookModel", name := "first", desc := "(I)I" } : Jvm.MethodName)) ∈ pm_tbl := pm_mem 1176 (by decide +kernel) rfl
theorem kw_1177 : (Jvm.Cond.instanceMethod ({ cls := "StandUpBookModel", name := "first", desc := "(I)I" } : Jvm.MethodName)) ∈ pm_tbl := pm_mem 1177 (by decide +kernel) rfl
theorem kw_1178 : (Jvm.Cond.selects "StandUpBookModel" ({ cls := "StandUpBookModel", name := "first", desc := "(I)I" } : Jvm.MethodName) ({ cls := "StandUpBookModel", name := "first", desc := "(I)I" } : Jvm.MethodName)) ∈ pm_tbl := pm_mem 1178 (by decide +kernel) rfl
theorem kw_628 : (Jvm.Cond.methodLink "StandUpBookLaw" (74 : Nat) ({ cls := "StandUpBook", name := "best", desc := "(I)I" } : Jvm.MethodName)) ∈ pm_tbl := pm_mem 628 (by decide +kernel) rfl
theorem kw_629 : (Jvm.Cond.instanceMethod ({ cls := "StandUpBook", name := "best", desc := "(I)I" } : Jvm.MethodName)) ∈ pm_tbl := pm_mem 629 (by decide +kernel) rfl
theorem kw_630 : (Jvm.Cond.selects "StandUpBook" ({ cls := "StandUpBook", name := "best", desc := "(I)I" } : Jvm.MethodName) ({ cls := "StandUpBook", name := "best", desc := "(I)I" } : Jvm.MethodName)) ∈ pm_tbl := pm_mem 630 (by decide +kernel) rfl
theorem kw_1180 : (Jvm.Cond.methodLink "StandUpBookLaw" (77 : Nat) ({ cls := "StandUpBookModel", name := "best", desc := "(I)I" } : Jvm.MethodName)) ∈ pm_tbl := pm_mem 1180 (by decide +kernel) rfl
theorem kw_1181 : (Jvm.Cond.instanceMethod ({ cls := "StandUpBookModel", name := "best", desc := "(I)I" } : Jvm.MethodName)) ∈ pm_tbl := pm_mem 1181 (by decide +kernel) rfl
theorem kw_1182 : (Jvm.Cond.selects "StandUpBookModel" ({ cls := "StandUpBookModel", name := "best", desc := "(I)I" } : Jvm.MethodName) ({ cls := "StandUpBookModel", name := "best", desc := "(I)I" } : Jvm.MethodName)) ∈ pm_tbl := pm_mem 1182 (by decide +kernel) rfl
theorem kw_637 : (Jvm.Cond.methodLink "StandUpBookLaw" (78 : Nat) ({ cls := "StandUpBook", name := "out", desc := "(I)I" } : Jvm.MethodName)) ∈ pm_tbl := pm_mem 637 (by decide +kernel) rfl
theorem kw_638 : (Jvm.Cond.instanceMethod ({ cls := "StandUpBook", name := "out", desc := "(I)I" } : Jvm.MethodName)) ∈ pm_tbl := pm_mem 638 (by decide +kernel) rfl
theorem kw_639 : (Jvm.Cond.selects "StandUpBook" ({ cls := "StandUpBook", name := "out", desc := "(I)I" } : Jvm.MethodName) ({ cls := "StandUpBook", name := "out", desc := "(I)I" } : Jvm.MethodName)) ∈ pm_tbl := pm_mem 639 (by decide +kernel) rfl
theorem kw_1190 : (Jvm.Cond.methodLink "StandUpBookLaw" (81 : Nat) ({ cls := "StandUpBookModel", name := "out", desc := "(I)I" } : Jvm.MethodName)) ∈ pm_tbl := pm_mem 1190 (by decide +kernel) rfl
theorem kw_1191 : (Jvm.Cond.instanceMethod ({ cls := "StandUpBookModel", name := "out", desc := "(I)I" } : Jvm.MethodName)) ∈ pm_tbl := pm_mem 1191 (by decide +kernel) rfl
theorem kw_1192 : (Jvm.Cond.selects "StandUpBookModel" ({ cls := "StandUpBookModel", name := "out", desc := "(I)I" } : Jvm.MethodName) ({ cls := "StandUpBookModel", name := "out", desc := "(I)I" } : Jvm.MethodName)) ∈ pm_tbl := pm_mem 1192 (by decide +kernel) rfl
theorem kw_657 : (Jvm.Cond.methodLink "StandUpBookLaw" (82 : Nat) ({ cls := "StandUpBook", name := "tour", desc := "(II)I" } : Jvm.MethodName)) ∈ pm_tbl := pm_mem 657 (by decide +kernel) rfl
theorem kw_658 : (Jvm.Cond.instanceMethod ({ cls := "StandUpBook", name := "tour", desc := "(II)I" } : Jvm.MethodName)) ∈ pm_tbl := pm_mem 658 (by decide +kernel) rfl
theorem kw_659 : (Jvm.Cond.selects "StandUpBook" ({ cls := "StandUpBook", name := "tour", desc := "(II)I" } : Jvm.MethodName) ({ cls := "StandUpBook", name := "tour", desc := "(II)I" } : Jvm.MethodName)) ∈ pm_tbl := pm_mem 659 (by decide +kernel) rfl
theorem kw_1198 : (Jvm.Cond.methodLink "StandUpBookLaw" (85 : Nat) ({ cls := "StandUpBookModel", name := "tour", desc := "(II)I" } : Jvm.MethodName)) ∈ pm_tbl := pm_mem 1198 (by decide +kernel) rfl
theorem kw_1199 : (Jvm.Cond.instanceMethod ({ cls := "StandUpBookModel", name := "tour", desc := "(II)I" } : Jvm.MethodName)) ∈ pm_tbl := pm_mem 1199 (by decide +kernel) rfl
theorem kw_1200 : (Jvm.Cond.selects "StandUpBookModel" ({ cls := "StandUpBookModel", name := "tour", desc := "(II)I" } : Jvm.MethodName) ({ cls := "StandUpBookModel", name := "tour", desc := "(II)I" } : Jvm.MethodName)) ∈ pm_tbl := pm_mem 1200 (by decide +kernel) rfl
theorem kw_685 : (Jvm.Cond.methodLink "StandUpBookLaw" (86 : Nat) ({ cls := "StandUpBook", name := "place", desc := "(III)I" } : Jvm.MethodName)) ∈ pm_tbl := pm_mem 685 (by decide +kernel) rfl
theorem kw_686 : (Jvm.Cond.instanceMethod ({ cls := "StandUpBook", name := "place", desc := "(III)I" } : Jvm.MethodName)) ∈ pm_tbl := pm_mem 686 (by decide +kernel) rfl
theorem kw_687 : (Jvm.Cond.selects "StandUpBook" ({ cls := "StandUpBook", name := "place", desc := "(III)I" } : Jvm.MethodName) ({ cls := "StandUpBook", name := "place", desc := "(III)I" } : Jvm.MethodName)) ∈ pm_tbl := pm_mem 687 (by decide +kernel) rfl
theorem kw_1231 : (Jvm.Cond.methodLink "StandUpBookLaw" (89 : Nat) ({ cls := "StandUpBookModel", name := "place", desc := "(III)I" } : Jvm.MethodName)) ∈ pm_tbl := pm_mem 1231 (by decide +kernel) rfl
theorem kw_1232 : (Jvm.Cond.instanceMethod ({ cls := "StandUpBookModel", name := "place", desc := "(III)I" } : Jvm.MethodName)) ∈ pm_tbl := pm_mem 1232 (by decide +kernel) rfl
theorem kw_1233 : (Jvm.Cond.selects "StandUpBookModel" ({ cls := "StandUpBookModel", name := "place", desc := "(III)I" } : Jvm.MethodName) ({ cls := "StandUpBookModel", name := "place", desc := "(III)I" } : Jvm.MethodName)) ∈ pm_tbl := pm_mem 1233 (by decide +kernel) rfl
theorem kw_689 : (Jvm.Cond.methodLink "StandUpBookLaw" (90 : Nat) ({ cls := "StandUpBook", name := "lasts", desc := "()I" } : Jvm.MethodName)) ∈ pm_tbl := pm_mem 689 (by decide +kernel) rfl
theorem kw_690 : (Jvm.Cond.instanceMethod ({ cls := "StandUpBook", name := "lasts", desc := "()I" } : Jvm.MethodName)) ∈ pm_tbl := pm_mem 690 (by decide +kernel) rfl
theorem kw_691 : (Jvm.Cond.selects "StandUpBook" ({ cls := "StandUpBook", name := "lasts", desc := "()I" } : Jvm.MethodName) ({ cls := "StandUpBook", name := "lasts", desc := "()I" } : Jvm.MethodName)) ∈ pm_tbl := pm_mem 691 (by decide +kernel) rfl
theorem kw_1235 : (Jvm.Cond.methodLink "StandUpBookLaw" (93 : Nat) ({ cls := "StandUpBookModel", name := "lasts", desc := "()I" } : Jvm.MethodName)) ∈ pm_tbl := pm_mem 1235 (by decide +kernel) rfl
theorem kw_1236 : (Jvm.Cond.instanceMethod ({ cls := "StandUpBookModel", name := "lasts", desc := "()I" } : Jvm.MethodName)) ∈ pm_tbl := pm_mem 1236 (by decide +kernel) rfl
theorem kw_1237 : (Jvm.Cond.selects "StandUpBookModel" ({ cls := "StandUpBookModel", name := "lasts", desc := "()I" } : Jvm.MethodName) ({ cls := "StandUpBookModel", name := "lasts", desc := "()I" } : Jvm.MethodName)) ∈ pm_tbl := pm_mem 1237 (by decide +kernel) rfl
theorem kw_697 : (Jvm.Cond.methodLink "StandUpBookLaw" (94 : Nat) ({ cls := "StandUpBook", name := "turns", desc := "(II)I" } : Jvm.MethodName)) ∈ pm_tbl := pm_mem 697 (by decide +kernel) rfl
theorem kw_698 : (Jvm.Cond.instanceMethod ({ cls := "StandUpBook", name := "turns", desc := "(II)I" } : Jvm.MethodName)) ∈ pm_tbl := pm_mem 698 (by decide +kernel) rfl
theorem kw_699 : (Jvm.Cond.selects "StandUpBook" ({ cls := "StandUpBook", name := "turns", desc := "(II)I" } : Jvm.MethodName) ({ cls := "StandUpBook", name := "turns", desc := "(II)I" } : Jvm.MethodName)) ∈ pm_tbl := pm_mem 699 (by decide +kernel) rfl
theorem kw_1243 : (Jvm.Cond.methodLink "StandUpBookLaw" (97 : Nat) ({ cls := "StandUpBookModel", name := "turns", desc := "(II)I" } : Jvm.MethodName)) ∈ pm_tbl := pm_mem 1243 (by decide +kernel) rfl
theorem kw_1244 : (Jvm.Cond.instanceMethod ({ cls := "StandUpBookModel", name := "turns", desc := "(II)I" } : Jvm.MethodName)) ∈ pm_tbl := pm_mem 1244 (by decide +kernel) rfl
theorem kw_1245 : (Jvm.Cond.selects "StandUpBookModel" ({ cls := "StandUpBookModel", name := "turns", desc := "(II)I" } : Jvm.MethodName) ({ cls := "StandUpBookModel", name := "turns", desc := "(II)I" } : Jvm.MethodName)) ∈ pm_tbl := pm_mem 1245 (by decide +kernel) rfl
theorem kw_706 : (Jvm.Cond.methodLink "StandUpBookLaw" (98 : Nat) ({ cls := "StandUpBook", name := "note", desc := "(IIIII)I" } : Jvm.MethodName)) ∈ pm_tbl := pm_mem 706 (by decide +kernel) rfl
theorem kw_707 : (Jvm.Cond.instanceMethod ({ cls := "StandUpBook", name := "note", desc := "(IIIII)I" } : Jvm.MethodName)) ∈ pm_tbl := pm_mem 707 (by decide +kernel) rfl
theorem kw_708 : (Jvm.Cond.selects "StandUpBook" ({ cls := "StandUpBook", name := "note", desc := "(IIIII)I" } : Jvm.MethodName) ({ cls := "StandUpBook", name := "note", desc := "(IIIII)I" } : Jvm.MethodName)) ∈ pm_tbl := pm_mem 708 (by decide +kernel) rfl
theorem kw_1251 : (Jvm.Cond.methodLink "StandUpBookLaw" (101 : Nat) ({ cls := "StandUpBookModel", name := "note", desc := "(IIIII)I" } : Jvm.MethodName)) ∈ pm_tbl := pm_mem 1251 (by decide +kernel) rfl
theorem kw_1252 : (Jvm.Cond.instanceMethod ({ cls := "StandUpBookModel", name := "note", desc := "(IIIII)I" } : Jvm.MethodName)) ∈ pm_tbl := pm_mem 1252 (by decide +kernel) rfl
theorem kw_1253 : (Jvm.Cond.selects "StandUpBookModel" ({ cls := "StandUpBookModel", name := "note", desc := "(IIIII)I" } : Jvm.MethodName) ({ cls := "StandUpBookModel", name := "note", desc := "(IIIII)I" } : Jvm.MethodName)) ∈ pm_tbl := pm_mem 1253 (by decide +kernel) rfl
theorem kw_710 : (Jvm.Cond.methodLink "StandUpBookLaw" (102 : Nat) ({ cls := "StandUpBook", name := "stood", desc := "(II)I" } : Jvm.MethodName)) ∈ pm_tbl := pm_mem 710 (by decide +kernel) rfl
theorem kw_711 : (Jvm.Cond.instanceMethod ({ cls := "StandUpBook", name := "stood", desc := "(II)I" } : Jvm.MethodName)) ∈ pm_tbl := pm_mem 711 (by decide +kernel) rfl
theorem kw_712 : (Jvm.Cond.selects "StandUpBook" ({ cls := "StandUpBook", name := "stood", desc := "(II)I" } : Jvm.MethodName) ({ cls := "StandUpBook", name := "stood", desc := "(II)I" } : Jvm.MethodName)) ∈ pm_tbl := pm_mem 712 (by decide +kernel) rfl
theorem kw_1255 : (Jvm.Cond.methodLink "StandUpBookLaw" (105 : Nat) ({ cls := "StandUpBookModel", name := "stood", desc := "(II)I" } : Jvm.MethodName)) ∈ pm_tbl := pm_mem 1255 (by decide +kernel) rfl
theorem kw_1256 : (Jvm.Cond.instanceMethod ({ cls := "StandUpBookModel", name := "stood", desc := "(II)I" } : Jvm.MethodName)) ∈ pm_tbl := pm_mem 1256 (by decide +kernel) rfl
theorem kw_1257 : (Jvm.Cond.selects "StandUpBookModel" ({ cls := "StandUpBookModel", name := "stood", desc := "(II)I" } : Jvm.MethodName) ({ cls := "StandUpBookModel", name := "stood", desc := "(II)I" } : Jvm.MethodName)) ∈ pm_tbl := pm_mem 1257 (by decide +kernel) rfl
theorem kw_714 : (Jvm.Cond.methodLink "StandUpBookLaw" (106 : Nat) ({ cls := "StandUpBook", name := "forget", desc := "(I)I" } : Jvm.MethodName)) ∈ pm_tbl := pm_mem 714 (by decide +kernel) rfl
theorem kw_715 : (Jvm.Cond.instanceMethod ({ cls := "StandUpBook", name := "forget", desc := "(I)I" } : Jvm.MethodName)) ∈ pm_tbl := pm_mem 715 (by decide +kernel) rfl
theorem kw_716 : (Jvm.Cond.selects "StandUpBook" ({ cls := "StandUpBook", name := "forget", desc := "(I)I" } : Jvm.MethodName) ({ cls := "StandUpBook", name := "forget", desc := "(I)I" } : Jvm.MethodName)) ∈ pm_tbl := pm_mem 716 (by decide +kernel) rfl
theorem kw_1259 : (Jvm.Cond.methodLink "StandUpBookLaw" (109 : Nat) ({ cls := "StandUpBookModel", name := "forget", desc := "(I)I" } : Jvm.MethodName)) ∈ pm_tbl := pm_mem 1259 (by decide +kernel) rfl
theorem kw_1260 : (Jvm.Cond.instanceMethod ({ cls := "StandUpBookModel", name := "forget", desc := "(I)I" } : Jvm.MethodName)) ∈ pm_tbl := pm_mem 1260 (by decide +kernel) rfl
theorem kw_1261 : (Jvm.Cond.selects "StandUpBookModel" ({ cls := "StandUpBookModel", name := "forget", desc := "(I)I" } : Jvm.MethodName) ({ cls := "StandUpBookModel", name := "forget", desc := "(I)I" } : Jvm.MethodName)) ∈ pm_tbl := pm_mem 1261 (by decide +kernel) rfl
theorem kw_718 : (Jvm.Cond.methodLink "StandUpBookLaw" (110 : Nat) ({ cls := "StandUpBook", name := "is", desc := "(I)I" } : Jvm.MethodName)) ∈ pm_tbl := pm_mem 718 (by decide +kernel) rfl
theorem kw_719 : (Jvm.Cond.instanceMethod ({ cls := "StandUpBook", name := "is", desc := "(I)I" } : Jvm.MethodName)) ∈ pm_tbl := pm_mem 719 (by decide +kernel) rfl
theorem kw_720 : (Jvm.Cond.selects "StandUpBook" ({ cls := "StandUpBook", name := "is", desc := "(I)I" } : Jvm.MethodName) ({ cls := "StandUpBook", name := "is", desc := "(I)I" } : Jvm.MethodName)) ∈ pm_tbl := pm_mem 720 (by decide +kernel) rfl
theorem kw_1263 : (Jvm.Cond.methodLink "StandUpBookLaw" (113 : Nat) ({ cls := "StandUpBookModel", name := "is", desc := "(I)I" } : Jvm.MethodName)) ∈ pm_tbl := pm_mem 1263 (by decide +kernel) rfl
theorem kw_1264 : (Jvm.Cond.instanceMethod ({ cls := "StandUpBookModel", name := "is", desc := "(I)I" } : Jvm.MethodName)) ∈ pm_tbl := pm_mem 1264 (by decide +kernel) rfl
theorem kw_1265 : (Jvm.Cond.selects "StandUpBookModel" ({ cls := "StandUpBookModel", name := "is", desc := "(I)I" } : Jvm.MethodName) ({ cls := "StandUpBookModel", name := "is", desc := "(I)I" } : Jvm.MethodName)) ∈ pm_tbl := pm_mem 1265 (by decide +kernel) rfl
theorem kw_731 : (Jvm.Cond.methodLink "StandUpBookLaw" (114 : Nat) ({ cls := "StandUpBook", name := "look", desc := "(I)I" } : Jvm.MethodName)) ∈ pm_tbl := pm_mem 731 (by decide +kernel) rfl
theorem kw_732 : (Jvm.Cond.instanceMethod ({ cls := "StandUpBook", name := "look", desc := "(I)I" } : Jvm.MethodName)) ∈ pm_tbl := pm_mem 732 (by decide +kernel) rfl
theorem kw_733 : (Jvm.Cond.selects "StandUpBook" ({ cls := "StandUpBook", name := "look", desc := "(I)I" } : Jvm.MethodName) ({ cls := "StandUpBook", name := "look", desc := "(I)I" } : Jvm.MethodName)) ∈ pm_tbl := pm_mem 733 (by decide +kernel) rfl
theorem kw_1271 : (Jvm.Cond.methodLink "StandUpBookLaw" (117 : Nat) ({ cls := "StandUpBookModel", name := "look", desc := "(I)I" } : Jvm.MethodName)) ∈ pm_tbl := pm_mem 1271 (by decide +kernel) rfl
theorem kw_1272 : (Jvm.Cond.instanceMethod ({ cls := "StandUpBookModel", name := "look", desc := "(I)I" } : Jvm.MethodName)) ∈ pm_tbl := pm_mem 1272 (by decide +kernel) rfl
theorem kw_1273 : (Jvm.Cond.selects "StandUpBookModel" ({ cls := "StandUpBookModel", name := "look", desc := "(I)I" } : Jvm.MethodName) ({ cls := "StandUpBookModel", name := "look", desc := "(I)I" } : Jvm.MethodName)) ∈ pm_tbl := pm_mem 1273 (by decide +kernel) rfl
theorem kw_743 : (Jvm.Cond.methodLink "StandUpBookLaw" (118 : Nat) ({ cls := "StandUpBook", name := "where", desc := "(II)I" } : Jvm.MethodName)) ∈ pm_tbl := pm_mem 743 (by decide +kernel) rfl
theorem kw_744 : (Jvm.Cond.instanceMethod ({ cls := "StandUpBook", name := "where", desc := "(II)I" } : Jvm.MethodName)) ∈ pm_tbl := pm_mem 744 (by decide +kernel) rfl
theorem kw_745 : (Jvm.Cond.selects "StandUpBook" ({ cls := "StandUpBook", name := "where", desc := "(II)I" } : Jvm.MethodName) ({ cls := "StandUpBook", name := "where", desc := "(II)I" } : Jvm.MethodName)) ∈ pm_tbl := pm_mem 745 (by decide +kernel) rfl
theorem kw_1278 : (Jvm.Cond.methodLink "StandUpBookLaw" (121 : Nat) ({ cls := "StandUpBookModel", name := "where", desc := "(II)I" } : Jvm.MethodName)) ∈ pm_tbl := pm_mem 1278 (by decide +kernel) rfl
theorem kw_1279 : (Jvm.Cond.instanceMethod ({ cls := "StandUpBookModel", name := "where", desc := "(II)I" } : Jvm.MethodName)) ∈ pm_tbl := pm_mem 1279 (by decide +kernel) rfl
theorem kw_1280 : (Jvm.Cond.selects "StandUpBookModel" ({ cls := "StandUpBookModel", name := "where", desc := "(II)I" } : Jvm.MethodName) ({ cls := "StandUpBookModel", name := "where", desc := "(II)I" } : Jvm.MethodName)) ∈ pm_tbl := pm_mem 1280 (by decide +kernel) rfl
theorem kw_751 : (Jvm.Cond.methodLink "StandUpBookLaw" (122 : Nat) ({ cls := "StandUpBook", name := "seats", desc := "(I)I" } : Jvm.MethodName)) ∈ pm_tbl := pm_mem 751 (by decide +kernel) rfl
theorem kw_752 : (Jvm.Cond.instanceMethod ({ cls := "StandUpBook", name := "seats", desc := "(I)I" } : Jvm.MethodName)) ∈ pm_tbl := pm_mem 752 (by decide +kernel) rfl
theorem kw_753 : (Jvm.Cond.selects "StandUpBook" ({ cls := "StandUpBook", name := "seats", desc := "(I)I" } : Jvm.MethodName) ({ cls := "StandUpBook", name := "seats", desc := "(I)I" } : Jvm.MethodName)) ∈ pm_tbl := pm_mem 753 (by decide +kernel) rfl
theorem kw_1286 : (Jvm.Cond.methodLink "StandUpBookLaw" (125 : Nat) ({ cls := "StandUpBookModel", name := "seats", desc := "(I)I" } : Jvm.MethodName)) ∈ pm_tbl := pm_mem 1286 (by decide +kernel) rfl
theorem kw_1287 : (Jvm.Cond.instanceMethod ({ cls := "StandUpBookModel", name := "seats", desc := "(I)I" } : Jvm.MethodName)) ∈ pm_tbl := pm_mem 1287 (by decide +kernel) rfl
theorem kw_1288 : (Jvm.Cond.selects "StandUpBookModel" ({ cls := "StandUpBookModel", name := "seats", desc := "(I)I" } : Jvm.MethodName) ({ cls := "StandUpBookModel", name := "seats", desc := "(I)I" } : Jvm.MethodName)) ∈ pm_tbl := pm_mem 1288 (by decide +kernel) rfl
theorem kw_771 : (Jvm.Cond.methodLink "StandUpBookLaw" (126 : Nat) ({ cls := "StandUpBook", name := "sticks", desc := "(II)I" } : Jvm.MethodName)) ∈ pm_tbl := pm_mem 771 (by decide +kernel) rfl
theorem kw_772 : (Jvm.Cond.instanceMethod ({ cls := "StandUpBook", name := "sticks", desc := "(II)I" } : Jvm.MethodName)) ∈ pm_tbl := pm_mem 772 (by decide +kernel) rfl
theorem kw_773 : (Jvm.Cond.selects "StandUpBook" ({ cls := "StandUpBook", name := "sticks", desc := "(II)I" } : Jvm.MethodName) ({ cls := "StandUpBook", name := "sticks", desc := "(II)I" } : Jvm.MethodName)) ∈ pm_tbl := pm_mem 773 (by decide +kernel) rfl
theorem kw_1302 : (Jvm.Cond.methodLink "StandUpBookLaw" (129 : Nat) ({ cls := "StandUpBookModel", name := "sticks", desc := "(II)I" } : Jvm.MethodName)) ∈ pm_tbl := pm_mem 1302 (by decide +kernel) rfl
theorem kw_1303 : (Jvm.Cond.instanceMethod ({ cls := "StandUpBookModel", name := "sticks", desc := "(II)I" } : Jvm.MethodName)) ∈ pm_tbl := pm_mem 1303 (by decide +kernel) rfl
theorem kw_1304 : (Jvm.Cond.selects "StandUpBookModel" ({ cls := "StandUpBookModel", name := "sticks", desc := "(II)I" } : Jvm.MethodName) ({ cls := "StandUpBookModel", name := "sticks", desc := "(II)I" } : Jvm.MethodName)) ∈ pm_tbl := pm_mem 1304 (by decide +kernel) rfl
theorem kw_790 : (Jvm.Cond.methodLink "StandUpBookLaw" (130 : Nat) ({ cls := "StandUpBook", name := "readers", desc := "(II)I" } : Jvm.MethodName)) ∈ pm_tbl := pm_mem 790 (by decide +kernel) rfl
theorem kw_791 : (Jvm.Cond.instanceMethod ({ cls := "StandUpBook", name := "readers", desc := "(II)I" } : Jvm.MethodName)) ∈ pm_tbl := pm_mem 791 (by decide +kernel) rfl
theorem kw_792 : (Jvm.Cond.selects "StandUpBook" ({ cls := "StandUpBook", name := "readers", desc := "(II)I" } : Jvm.MethodName) ({ cls := "StandUpBook", name := "readers", desc := "(II)I" } : Jvm.MethodName)) ∈ pm_tbl := pm_mem 792 (by decide +kernel) rfl
theorem kw_1311 : (Jvm.Cond.methodLink "StandUpBookLaw" (133 : Nat) ({ cls := "StandUpBookModel", name := "readers", desc := "(II)I" } : Jvm.MethodName)) ∈ pm_tbl := pm_mem 1311 (by decide +kernel) rfl
theorem kw_1312 : (Jvm.Cond.instanceMethod ({ cls := "StandUpBookModel", name := "readers", desc := "(II)I" } : Jvm.MethodName)) ∈ pm_tbl := pm_mem 1312 (by decide +kernel) rfl
theorem kw_1313 : (Jvm.Cond.selects "StandUpBookModel" ({ cls := "StandUpBookModel", name := "readers", desc := "(II)I" } : Jvm.MethodName) ({ cls := "StandUpBookModel", name := "readers", desc := "(II)I" } : Jvm.MethodName)) ∈ pm_tbl := pm_mem 1313 (by decide +kernel) rfl
theorem kw_800 : (Jvm.Cond.methodLink "StandUpBookLaw" (134 : Nat) ({ cls := "StandUpBook", name := "part", desc := "(I)J" } : Jvm.MethodName)) ∈ pm_tbl := pm_mem 800 (by decide +kernel) rfl
theorem kw_801 : (Jvm.Cond.instanceMethod ({ cls := "StandUpBook", name := "part", desc := "(I)J" } : Jvm.MethodName)) ∈ pm_tbl := pm_mem 801 (by decide +kernel) rfl
theorem kw_802 : (Jvm.Cond.selects "StandUpBook" ({ cls := "StandUpBook", name := "part", desc := "(I)J" } : Jvm.MethodName) ({ cls := "StandUpBook", name := "part", desc := "(I)J" } : Jvm.MethodName)) ∈ pm_tbl := pm_mem 802 (by decide +kernel) rfl
theorem kw_1321 : (Jvm.Cond.methodLink "StandUpBookLaw" (138 : Nat) ({ cls := "StandUpBookModel", name := "part", desc := "(I)J" } : Jvm.MethodName)) ∈ pm_tbl := pm_mem 1321 (by decide +kernel) rfl
theorem kw_1322 : (Jvm.Cond.instanceMethod ({ cls := "StandUpBookModel", name := "part", desc := "(I)J" } : Jvm.MethodName)) ∈ pm_tbl := pm_mem 1322 (by decide +kernel) rfl
theorem kw_1323 : (Jvm.Cond.selects "StandUpBookModel" ({ cls := "StandUpBookModel", name := "part", desc := "(I)J" } : Jvm.MethodName) ({ cls := "StandUpBookModel", name := "part", desc := "(I)J" } : Jvm.MethodName)) ∈ pm_tbl := pm_mem 1323 (by decide +kernel) rfl
theorem kw_804 : (Jvm.Cond.methodLink "StandUpBookLaw" (139 : Nat) ({ cls := "StandUpBook", name := "image", desc := "(I)I" } : Jvm.MethodName)) ∈ pm_tbl := pm_mem 804 (by decide +kernel) rfl
theorem kw_805 : (Jvm.Cond.instanceMethod ({ cls := "StandUpBook", name := "image", desc := "(I)I" } : Jvm.MethodName)) ∈ pm_tbl := pm_mem 805 (by decide +kernel) rfl
theorem kw_806 : (Jvm.Cond.selects "StandUpBook" ({ cls := "StandUpBook", name := "image", desc := "(I)I" } : Jvm.MethodName) ({ cls := "StandUpBook", name := "image", desc := "(I)I" } : Jvm.MethodName)) ∈ pm_tbl := pm_mem 806 (by decide +kernel) rfl
theorem kw_1325 : (Jvm.Cond.methodLink "StandUpBookLaw" (142 : Nat) ({ cls := "StandUpBookModel", name := "image", desc := "(I)I" } : Jvm.MethodName)) ∈ pm_tbl := pm_mem 1325 (by decide +kernel) rfl
theorem kw_1326 : (Jvm.Cond.instanceMethod ({ cls := "StandUpBookModel", name := "image", desc := "(I)I" } : Jvm.MethodName)) ∈ pm_tbl := pm_mem 1326 (by decide +kernel) rfl
theorem kw_1327 : (Jvm.Cond.selects "StandUpBookModel" ({ cls := "StandUpBookModel", name := "image", desc := "(I)I" } : Jvm.MethodName) ({ cls := "StandUpBookModel", name := "image", desc := "(I)I" } : Jvm.MethodName)) ∈ pm_tbl := pm_mem 1327 (by decide +kernel) rfl
theorem kw_815 : (Jvm.Cond.methodLink "StandUpBookLaw" (143 : Nat) ({ cls := "StandUpBook", name := "from", desc := "(I)I" } : Jvm.MethodName)) ∈ pm_tbl := pm_mem 815 (by decide +kernel) rfl
theorem kw_816 : (Jvm.Cond.instanceMethod ({ cls := "StandUpBook", name := "from", desc := "(I)I" } : Jvm.MethodName)) ∈ pm_tbl := pm_mem 816 (by decide +kernel) rfl
theorem kw_817 : (Jvm.Cond.selects "StandUpBook" ({ cls := "StandUpBook", name := "from", desc := "(I)I" } : Jvm.MethodName) ({ cls := "StandUpBook", name := "from", desc := "(I)I" } : Jvm.MethodName)) ∈ pm_tbl := pm_mem 817 (by decide +kernel) rfl
theorem kw_1329 : (Jvm.Cond.methodLink "StandUpBookLaw" (146 : Nat) ({ cls := "StandUpBookModel", name := "from", desc := "(I)I" } : Jvm.MethodName)) ∈ pm_tbl := pm_mem 1329 (by decide +kernel) rfl
theorem kw_1330 : (Jvm.Cond.instanceMethod ({ cls := "StandUpBookModel", name := "from", desc := "(I)I" } : Jvm.MethodName)) ∈ pm_tbl := pm_mem 1330 (by decide +kernel) rfl
theorem kw_1331 : (Jvm.Cond.selects "StandUpBookModel" ({ cls := "StandUpBookModel", name := "from", desc := "(I)I" } : Jvm.MethodName) ({ cls := "StandUpBookModel", name := "from", desc := "(I)I" } : Jvm.MethodName)) ∈ pm_tbl := pm_mem 1331 (by decide +kernel) rfl
theorem kw_819 : (Jvm.Cond.methodLink "StandUpBookLaw" (147 : Nat) ({ cls := "StandUpBook", name := "status", desc := "(I)I" } : Jvm.MethodName)) ∈ pm_tbl := pm_mem 819 (by decide +kernel) rfl
theorem kw_820 : (Jvm.Cond.instanceMethod ({ cls := "StandUpBook", name := "status", desc := "(I)I" } : Jvm.MethodName)) ∈ pm_tbl := pm_mem 820 (by decide +kernel) rfl
theorem kw_821 : (Jvm.Cond.selects "StandUpBook" ({ cls := "StandUpBook", name := "status", desc := "(I)I" } : Jvm.MethodName) ({ cls := "StandUpBook", name := "status", desc := "(I)I" } : Jvm.MethodName)) ∈ pm_tbl := pm_mem 821 (by decide +kernel) rfl
theorem kw_1333 : (Jvm.Cond.methodLink "StandUpBookLaw" (150 : Nat) ({ cls := "StandUpBookModel", name := "status", desc := "(I)I" } : Jvm.MethodName)) ∈ pm_tbl := pm_mem 1333 (by decide +kernel) rfl
theorem kw_1334 : (Jvm.Cond.instanceMethod ({ cls := "StandUpBookModel", name := "status", desc := "(I)I" } : Jvm.MethodName)) ∈ pm_tbl := pm_mem 1334 (by decide +kernel) rfl
theorem kw_1335 : (Jvm.Cond.selects "StandUpBookModel" ({ cls := "StandUpBookModel", name := "status", desc := "(I)I" } : Jvm.MethodName) ({ cls := "StandUpBookModel", name := "status", desc := "(I)I" } : Jvm.MethodName)) ∈ pm_tbl := pm_mem 1335 (by decide +kernel) rfl
theorem kw_823 : (Jvm.Cond.methodLink "StandUpBookLaw" (151 : Nat) ({ cls := "StandUpBook", name := "count", desc := "(I)I" } : Jvm.MethodName)) ∈ pm_tbl := pm_mem 823 (by decide +kernel) rfl
theorem kw_1337 : (Jvm.Cond.methodLink "StandUpBookLaw" (154 : Nat) ({ cls := "StandUpBookModel", name := "count", desc := "(I)I" } : Jvm.MethodName)) ∈ pm_tbl := pm_mem 1337 (by decide +kernel) rfl
theorem kw_1338 : (Jvm.Cond.instanceMethod ({ cls := "StandUpBookModel", name := "count", desc := "(I)I" } : Jvm.MethodName)) ∈ pm_tbl := pm_mem 1338 (by decide +kernel) rfl
theorem kw_1339 : (Jvm.Cond.selects "StandUpBookModel" ({ cls := "StandUpBookModel", name := "count", desc := "(I)I" } : Jvm.MethodName) ({ cls := "StandUpBookModel", name := "count", desc := "(I)I" } : Jvm.MethodName)) ∈ pm_tbl := pm_mem 1339 (by decide +kernel) rfl
theorem kw_831 : (Jvm.Cond.methodLink "StandUpBookLaw" (155 : Nat) ({ cls := "StandUpBook", name := "digest", desc := "()J" } : Jvm.MethodName)) ∈ pm_tbl := pm_mem 831 (by decide +kernel) rfl
theorem kw_832 : (Jvm.Cond.instanceMethod ({ cls := "StandUpBook", name := "digest", desc := "()J" } : Jvm.MethodName)) ∈ pm_tbl := pm_mem 832 (by decide +kernel) rfl
theorem kw_833 : (Jvm.Cond.selects "StandUpBook" ({ cls := "StandUpBook", name := "digest", desc := "()J" } : Jvm.MethodName) ({ cls := "StandUpBook", name := "digest", desc := "()J" } : Jvm.MethodName)) ∈ pm_tbl := pm_mem 833 (by decide +kernel) rfl
theorem kw_1353 : (Jvm.Cond.methodLink "StandUpBookLaw" (159 : Nat) ({ cls := "StandUpBookModel", name := "digest", desc := "()J" } : Jvm.MethodName)) ∈ pm_tbl := pm_mem 1353 (by decide +kernel) rfl
theorem kw_1354 : (Jvm.Cond.instanceMethod ({ cls := "StandUpBookModel", name := "digest", desc := "()J" } : Jvm.MethodName)) ∈ pm_tbl := pm_mem 1354 (by decide +kernel) rfl
theorem kw_1355 : (Jvm.Cond.selects "StandUpBookModel" ({ cls := "StandUpBookModel", name := "digest", desc := "()J" } : Jvm.MethodName) ({ cls := "StandUpBookModel", name := "digest", desc := "()J" } : Jvm.MethodName)) ∈ pm_tbl := pm_mem 1355 (by decide +kernel) rfl
theorem kw_37 : (Jvm.Cond.fieldLink "StandUpBook$Text" (9 : Nat) "StandUpBook$Text" "bytes" "[B") ∈ pm_tbl := pm_mem 37 (by decide +kernel) rfl
theorem kw_38 : (Jvm.Cond.fieldLink "StandUpBook$Text" (15 : Nat) "StandUpBook$Text" "length" "I") ∈ pm_tbl := pm_mem 38 (by decide +kernel) rfl
theorem kw_39 : (Jvm.Cond.fieldLink "StandUpBook" (121 : Nat) "StandUpBook$Text" "length" "I") ∈ pm_tbl := pm_mem 39 (by decide +kernel) rfl
theorem kw_40 : (Jvm.Cond.fieldLink "StandUpBook$Text" (19 : Nat) "StandUpBook$Text" "sort" "I") ∈ pm_tbl := pm_mem 40 (by decide +kernel) rfl
theorem kw_41 : (Jvm.Cond.fieldLink "StandUpBook$Text" (22 : Nat) "StandUpBook$Text" "start" "I") ∈ pm_tbl := pm_mem 41 (by decide +kernel) rfl
theorem kw_42 : (Jvm.Cond.fieldLink "StandUpBook$Text" (25 : Nat) "StandUpBook$Text" "end" "I") ∈ pm_tbl := pm_mem 42 (by decide +kernel) rfl
theorem kw_43 : (Jvm.Cond.fieldLink "StandUpBook$Text" (28 : Nat) "StandUpBook$Text" "value" "I") ∈ pm_tbl := pm_mem 43 (by decide +kernel) rfl
theorem kw_44 : (Jvm.Cond.fieldLink "StandUpBook$Text" (31 : Nat) "StandUpBook$Text" "fault" "I") ∈ pm_tbl := pm_mem 44 (by decide +kernel) rfl
theorem kw_68 : (Jvm.Cond.fieldLink "StandUpBook$Walk" (9 : Nat) "StandUpBook$Walk" "shown" "[I") ∈ pm_tbl := pm_mem 68 (by decide +kernel) rfl
theorem kw_69 : (Jvm.Cond.fieldLink "StandUpBook" (242 : Nat) "StandUpBook$Walk" "shown" "[I") ∈ pm_tbl := pm_mem 69 (by decide +kernel) rfl
theorem kw_70 : (Jvm.Cond.fieldLink "StandUpBook$Walk" (15 : Nat) "StandUpBook$Walk" "wanted" "I") ∈ pm_tbl := pm_mem 70 (by decide +kernel) rfl
theorem kw_71 : (Jvm.Cond.fieldLink "StandUpBook" (245 : Nat) "StandUpBook$Walk" "wanted" "I") ∈ pm_tbl := pm_mem 71 (by decide +kernel) rfl
theorem kw_142 : (Jvm.Cond.fieldLink "StandUpBook$Piece" (16 : Nat) "StandUpBook$Piece" "kind" "I") ∈ pm_tbl := pm_mem 142 (by decide +kernel) rfl
theorem kw_143 : (Jvm.Cond.fieldLink "StandUpBook$Page" (44 : Nat) "StandUpBook$Piece" "kind" "I") ∈ pm_tbl := pm_mem 143 (by decide +kernel) rfl
theorem kw_144 : (Jvm.Cond.fieldLink "StandUpBook" (183 : Nat) "StandUpBook$Piece" "kind" "I") ∈ pm_tbl := pm_mem 144 (by decide +kernel) rfl
theorem kw_145 : (Jvm.Cond.fieldLink "StandUpBook$Piece" (19 : Nat) "StandUpBook$Piece" "arm" "I") ∈ pm_tbl := pm_mem 145 (by decide +kernel) rfl
theorem kw_146 : (Jvm.Cond.fieldLink "StandUpBook$Page" (47 : Nat) "StandUpBook$Piece" "arm" "I") ∈ pm_tbl := pm_mem 146 (by decide +kernel) rfl
theorem kw_147 : (Jvm.Cond.fieldLink "StandUpBook" (186 : Nat) "StandUpBook$Piece" "arm" "I") ∈ pm_tbl := pm_mem 147 (by decide +kernel) rfl
theorem kw_148 : (Jvm.Cond.fieldLink "StandUpBook$Piece" (22 : Nat) "StandUpBook$Piece" "tall" "I") ∈ pm_tbl := pm_mem 148 (by decide +kernel) rfl
theorem kw_149 : (Jvm.Cond.fieldLink "StandUpBook$Page" (50 : Nat) "StandUpBook$Piece" "tall" "I") ∈ pm_tbl := pm_mem 149 (by decide +kernel) rfl
theorem kw_150 : (Jvm.Cond.fieldLink "StandUpBook" (189 : Nat) "StandUpBook$Piece" "tall" "I") ∈ pm_tbl := pm_mem 150 (by decide +kernel) rfl
theorem kw_151 : (Jvm.Cond.fieldLink "StandUpBook$Piece" (25 : Nat) "StandUpBook$Piece" "row" "I") ∈ pm_tbl := pm_mem 151 (by decide +kernel) rfl
theorem kw_152 : (Jvm.Cond.fieldLink "StandUpBook$Page" (53 : Nat) "StandUpBook$Piece" "row" "I") ∈ pm_tbl := pm_mem 152 (by decide +kernel) rfl
theorem kw_153 : (Jvm.Cond.fieldLink "StandUpBook" (192 : Nat) "StandUpBook$Piece" "row" "I") ∈ pm_tbl := pm_mem 153 (by decide +kernel) rfl
theorem kw_154 : (Jvm.Cond.fieldLink "StandUpBook$Piece" (28 : Nat) "StandUpBook$Piece" "on" "I") ∈ pm_tbl := pm_mem 154 (by decide +kernel) rfl
theorem kw_155 : (Jvm.Cond.fieldLink "StandUpBook$Page" (56 : Nat) "StandUpBook$Piece" "on" "I") ∈ pm_tbl := pm_mem 155 (by decide +kernel) rfl
theorem kw_156 : (Jvm.Cond.fieldLink "StandUpBook" (195 : Nat) "StandUpBook$Piece" "on" "I") ∈ pm_tbl := pm_mem 156 (by decide +kernel) rfl
theorem kw_157 : (Jvm.Cond.fieldLink "StandUpBook$Piece" (31 : Nat) "StandUpBook$Piece" "tab" "I") ∈ pm_tbl := pm_mem 157 (by decide +kernel) rfl
theorem kw_158 : (Jvm.Cond.fieldLink "StandUpBook$Page" (59 : Nat) "StandUpBook$Piece" "tab" "I") ∈ pm_tbl := pm_mem 158 (by decide +kernel) rfl
theorem kw_159 : (Jvm.Cond.fieldLink "StandUpBook$Text" (96 : Nat) "StandUpBook$Piece" "tab" "I") ∈ pm_tbl := pm_mem 159 (by decide +kernel) rfl
theorem kw_160 : (Jvm.Cond.fieldLink "StandUpBook" (165 : Nat) "StandUpBook$Piece" "tab" "I") ∈ pm_tbl := pm_mem 160 (by decide +kernel) rfl
theorem kw_161 : (Jvm.Cond.fieldLink "StandUpBook$Piece" (7 : Nat) "StandUpBook$Piece" "wear" "I") ∈ pm_tbl := pm_mem 161 (by decide +kernel) rfl
theorem kw_162 : (Jvm.Cond.fieldLink "StandUpBook$Page" (62 : Nat) "StandUpBook$Piece" "wear" "I") ∈ pm_tbl := pm_mem 162 (by decide +kernel) rfl
theorem kw_163 : (Jvm.Cond.fieldLink "StandUpBook" (198 : Nat) "StandUpBook$Piece" "wear" "I") ∈ pm_tbl := pm_mem 163 (by decide +kernel) rfl
theorem kw_164 : (Jvm.Cond.fieldLink "StandUpBook$Piece" (13 : Nat) "StandUpBook$Piece" "bears" "I") ∈ pm_tbl := pm_mem 164 (by decide +kernel) rfl
theorem kw_165 : (Jvm.Cond.fieldLink "StandUpBook$Page" (71 : Nat) "StandUpBook$Piece" "bears" "I") ∈ pm_tbl := pm_mem 165 (by decide +kernel) rfl
theorem kw_166 : (Jvm.Cond.fieldLink "StandUpBook" (210 : Nat) "StandUpBook$Piece" "bears" "I") ∈ pm_tbl := pm_mem 166 (by decide +kernel) rfl
theorem kw_184 : (Jvm.Cond.fieldLink "StandUpBook$Page" (31 : Nat) "StandUpBook$Page" "kinds" "[LStandUpBook$Vee;") ∈ pm_tbl := pm_mem 184 (by decide +kernel) rfl
theorem kw_185 : (Jvm.Cond.fieldLink "StandUpBook" (348 : Nat) "StandUpBook$Page" "kinds" "[LStandUpBook$Vee;") ∈ pm_tbl := pm_mem 185 (by decide +kernel) rfl
theorem kw_186 : (Jvm.Cond.fieldLink "StandUpBook$Page" (11 : Nat) "StandUpBook$Page" "pieces" "[LStandUpBook$Piece;") ∈ pm_tbl := pm_mem 186 (by decide +kernel) rfl
theorem kw_187 : (Jvm.Cond.fieldLink "StandUpBook$Text" (92 : Nat) "StandUpBook$Page" "pieces" "[LStandUpBook$Piece;") ∈ pm_tbl := pm_mem 187 (by decide +kernel) rfl
theorem kw_188 : (Jvm.Cond.fieldLink "StandUpBook" (161 : Nat) "StandUpBook$Page" "pieces" "[LStandUpBook$Piece;") ∈ pm_tbl := pm_mem 188 (by decide +kernel) rfl
theorem kw_189 : (Jvm.Cond.fieldLink "StandUpBook$Page" (17 : Nat) "StandUpBook$Page" "heights" "[I") ∈ pm_tbl := pm_mem 189 (by decide +kernel) rfl
theorem kw_190 : (Jvm.Cond.fieldLink "StandUpBook" (217 : Nat) "StandUpBook$Page" "heights" "[I") ∈ pm_tbl := pm_mem 190 (by decide +kernel) rfl
theorem kw_191 : (Jvm.Cond.fieldLink "StandUpBook$Page" (21 : Nat) "StandUpBook$Page" "wide" "I") ∈ pm_tbl := pm_mem 191 (by decide +kernel) rfl
theorem kw_192 : (Jvm.Cond.fieldLink "StandUpBook" (131 : Nat) "StandUpBook$Page" "wide" "I") ∈ pm_tbl := pm_mem 192 (by decide +kernel) rfl
theorem kw_193 : (Jvm.Cond.fieldLink "StandUpBook$Page" (25 : Nat) "StandUpBook$Page" "open" "I") ∈ pm_tbl := pm_mem 193 (by decide +kernel) rfl
theorem kw_194 : (Jvm.Cond.fieldLink "StandUpBook" (142 : Nat) "StandUpBook$Page" "open" "I") ∈ pm_tbl := pm_mem 194 (by decide +kernel) rfl
theorem kw_195 : (Jvm.Cond.fieldLink "StandUpBook$Page" (28 : Nat) "StandUpBook$Page" "many" "I") ∈ pm_tbl := pm_mem 195 (by decide +kernel) rfl
theorem kw_196 : (Jvm.Cond.fieldLink "StandUpBook" (100 : Nat) "StandUpBook$Page" "many" "I") ∈ pm_tbl := pm_mem 196 (by decide +kernel) rfl
theorem kw_197 : (Jvm.Cond.fieldLink "StandUpBook$Text" (82 : Nat) "StandUpBook$Page" "many" "I") ∈ pm_tbl := pm_mem 197 (by decide +kernel) rfl
theorem kw_211 : (Jvm.Cond.fieldLink "StandUpBook$Spread" (38 : Nat) "StandUpBook$Spread" "page" "LStandUpBook$Page;") ∈ pm_tbl := pm_mem 211 (by decide +kernel) rfl
theorem kw_212 : (Jvm.Cond.fieldLink "StandUpBook" (97 : Nat) "StandUpBook$Spread" "page" "LStandUpBook$Page;") ∈ pm_tbl := pm_mem 212 (by decide +kernel) rfl
theorem kw_213 : (Jvm.Cond.fieldLink "StandUpBook$Spread" (11 : Nat) "StandUpBook$Spread" "past" "[LStandUpBook$Page;") ∈ pm_tbl := pm_mem 213 (by decide +kernel) rfl
theorem kw_214 : (Jvm.Cond.fieldLink "StandUpBook$Spread" (19 : Nat) "StandUpBook$Spread" "notes" "[[I") ∈ pm_tbl := pm_mem 214 (by decide +kernel) rfl
theorem kw_215 : (Jvm.Cond.fieldLink "StandUpBook" (265 : Nat) "StandUpBook$Spread" "notes" "[[I") ∈ pm_tbl := pm_mem 215 (by decide +kernel) rfl
theorem kw_216 : (Jvm.Cond.fieldLink "StandUpBook$Spread" (22 : Nat) "StandUpBook$Spread" "stoodOnes" "[[I") ∈ pm_tbl := pm_mem 216 (by decide +kernel) rfl
theorem kw_217 : (Jvm.Cond.fieldLink "StandUpBook" (269 : Nat) "StandUpBook$Spread" "stoodOnes" "[[I") ∈ pm_tbl := pm_mem 217 (by decide +kernel) rfl
theorem kw_218 : (Jvm.Cond.fieldLink "StandUpBook$Spread" (25 : Nat) "StandUpBook$Spread" "undoable" "I") ∈ pm_tbl := pm_mem 218 (by decide +kernel) rfl
theorem kw_219 : (Jvm.Cond.fieldLink "StandUpBook" (114 : Nat) "StandUpBook$Spread" "undoable" "I") ∈ pm_tbl := pm_mem 219 (by decide +kernel) rfl
theorem kw_220 : (Jvm.Cond.fieldLink "StandUpBook$Spread" (29 : Nat) "StandUpBook$Spread" "noteMany" "I") ∈ pm_tbl := pm_mem 220 (by decide +kernel) rfl
theorem kw_221 : (Jvm.Cond.fieldLink "StandUpBook" (170 : Nat) "StandUpBook$Spread" "noteMany" "I") ∈ pm_tbl := pm_mem 221 (by decide +kernel) rfl
theorem kw_222 : (Jvm.Cond.fieldLink "StandUpBook$Spread" (32 : Nat) "StandUpBook$Spread" "stoodMany" "I") ∈ pm_tbl := pm_mem 222 (by decide +kernel) rfl
theorem kw_223 : (Jvm.Cond.fieldLink "StandUpBook" (173 : Nat) "StandUpBook$Spread" "stoodMany" "I") ∈ pm_tbl := pm_mem 223 (by decide +kernel) rfl
theorem kw_241 : (Jvm.Cond.fieldLink "StandUpBook" (78 : Nat) "StandUpBook" "now" "LStandUpBook$Spread;") ∈ pm_tbl := pm_mem 241 (by decide +kernel) rfl
theorem kw_242 : (Jvm.Cond.fieldLink "StandUpBook" (11 : Nat) "StandUpBook" "images" "[LStandUpBook$Spread;") ∈ pm_tbl := pm_mem 242 (by decide +kernel) rfl
theorem kw_243 : (Jvm.Cond.fieldLink "StandUpBook" (15 : Nat) "StandUpBook" "kept" "[Z") ∈ pm_tbl := pm_mem 243 (by decide +kernel) rfl
theorem kw_244 : (Jvm.Cond.fieldLink "StandUpBook" (22 : Nat) "StandUpBook" "text" "LStandUpBook$Text;") ∈ pm_tbl := pm_mem 244 (by decide +kernel) rfl
theorem kw_245 : (Jvm.Cond.fieldLink "StandUpBook" (85 : Nat) "StandUpBook" "trial" "LStandUpBook$Page;") ∈ pm_tbl := pm_mem 245 (by decide +kernel) rfl
theorem kw_246 : (Jvm.Cond.fieldLink "StandUpBook" (29 : Nat) "StandUpBook" "walk" "LStandUpBook$Walk;") ∈ pm_tbl := pm_mem 246 (by decide +kernel) rfl
theorem kw_247 : (Jvm.Cond.fieldLink "StandUpBook" (33 : Nat) "StandUpBook" "seenMany" "[I") ∈ pm_tbl := pm_mem 247 (by decide +kernel) rfl
theorem kw_248 : (Jvm.Cond.fieldLink "StandUpBook" (37 : Nat) "StandUpBook" "highest" "[I") ∈ pm_tbl := pm_mem 248 (by decide +kernel) rfl
theorem kw_249 : (Jvm.Cond.fieldLink "StandUpBook" (40 : Nat) "StandUpBook" "above" "J") ∈ pm_tbl := pm_mem 249 (by decide +kernel) rfl
theorem kw_250 : (Jvm.Cond.fieldLink "StandUpBook" (44 : Nat) "StandUpBook" "below" "J") ∈ pm_tbl := pm_mem 250 (by decide +kernel) rfl
theorem kw_251 : (Jvm.Cond.fieldLink "StandUpBook" (47 : Nat) "StandUpBook" "badOnes" "I") ∈ pm_tbl := pm_mem 251 (by decide +kernel) rfl
theorem kw_252 : (Jvm.Cond.fieldLink "StandUpBook" (51 : Nat) "StandUpBook" "noOnes" "I") ∈ pm_tbl := pm_mem 252 (by decide +kernel) rfl
theorem kw_253 : (Jvm.Cond.fieldLink "StandUpBook" (54 : Nat) "StandUpBook" "fullOnes" "I") ∈ pm_tbl := pm_mem 253 (by decide +kernel) rfl
theorem kw_863 : (Jvm.Cond.fieldLink "StandUpBookModel" (1 : Nat) "StandUpBookModel" "refused" "[I") ∈ pm_tbl := pm_mem 863 (by decide +kernel) rfl
theorem kw_864 : (Jvm.Cond.fieldLink "StandUpBookModel" (96 : Nat) "StandUpBookModel" "many" "I") ∈ pm_tbl := pm_mem 864 (by decide +kernel) rfl
theorem kw_865 : (Jvm.Cond.fieldLink "StandUpBookModel" (100 : Nat) "StandUpBookModel" "open" "I") ∈ pm_tbl := pm_mem 865 (by decide +kernel) rfl
theorem kw_866 : (Jvm.Cond.fieldLink "StandUpBookModel" (103 : Nat) "StandUpBookModel" "wide" "I") ∈ pm_tbl := pm_mem 866 (by decide +kernel) rfl
theorem kw_867 : (Jvm.Cond.fieldLink "StandUpBookModel" (106 : Nat) "StandUpBookModel" "noteMany" "I") ∈ pm_tbl := pm_mem 867 (by decide +kernel) rfl
theorem kw_868 : (Jvm.Cond.fieldLink "StandUpBookModel" (109 : Nat) "StandUpBookModel" "stoodMany" "I") ∈ pm_tbl := pm_mem 868 (by decide +kernel) rfl
theorem kw_869 : (Jvm.Cond.fieldLink "StandUpBookModel" (13 : Nat) "StandUpBookModel" "kinds" "[I") ∈ pm_tbl := pm_mem 869 (by decide +kernel) rfl
theorem kw_870 : (Jvm.Cond.fieldLink "StandUpBookModel" (16 : Nat) "StandUpBookModel" "arms" "[I") ∈ pm_tbl := pm_mem 870 (by decide +kernel) rfl
theorem kw_871 : (Jvm.Cond.fieldLink "StandUpBookModel" (19 : Nat) "StandUpBookModel" "talls" "[I") ∈ pm_tbl := pm_mem 871 (by decide +kernel) rfl
theorem kw_872 : (Jvm.Cond.fieldLink "StandUpBookModel" (22 : Nat) "StandUpBookModel" "rows" "[I") ∈ pm_tbl := pm_mem 872 (by decide +kernel) rfl
theorem kw_873 : (Jvm.Cond.fieldLink "StandUpBookModel" (25 : Nat) "StandUpBookModel" "ons" "[I") ∈ pm_tbl := pm_mem 873 (by decide +kernel) rfl
theorem kw_874 : (Jvm.Cond.fieldLink "StandUpBookModel" (28 : Nat) "StandUpBookModel" "tabs" "[I") ∈ pm_tbl := pm_mem 874 (by decide +kernel) rfl
theorem kw_875 : (Jvm.Cond.fieldLink "StandUpBookModel" (31 : Nat) "StandUpBookModel" "wears" "[I") ∈ pm_tbl := pm_mem 875 (by decide +kernel) rfl
theorem kw_876 : (Jvm.Cond.fieldLink "StandUpBookModel" (34 : Nat) "StandUpBookModel" "noted" "[I") ∈ pm_tbl := pm_mem 876 (by decide +kernel) rfl
theorem kw_877 : (Jvm.Cond.fieldLink "StandUpBookModel" (37 : Nat) "StandUpBookModel" "stoodAt" "[I") ∈ pm_tbl := pm_mem 877 (by decide +kernel) rfl
theorem kw_878 : (Jvm.Cond.fieldLink "StandUpBookModel" (40 : Nat) "StandUpBookModel" "stoodSet" "[I") ∈ pm_tbl := pm_mem 878 (by decide +kernel) rfl
theorem kw_879 : (Jvm.Cond.fieldLink "StandUpBookModel" (43 : Nat) "StandUpBookModel" "text" "[I") ∈ pm_tbl := pm_mem 879 (by decide +kernel) rfl
theorem kw_880 : (Jvm.Cond.fieldLink "StandUpBookModel" (130 : Nat) "StandUpBookModel" "typed" "I") ∈ pm_tbl := pm_mem 880 (by decide +kernel) rfl
theorem kw_881 : (Jvm.Cond.fieldLink "StandUpBookModel" (133 : Nat) "StandUpBookModel" "readAt" "I") ∈ pm_tbl := pm_mem 881 (by decide +kernel) rfl
theorem kw_882 : (Jvm.Cond.fieldLink "StandUpBookModel" (156 : Nat) "StandUpBookModel" "readNumber" "I") ∈ pm_tbl := pm_mem 882 (by decide +kernel) rfl
theorem kw_883 : (Jvm.Cond.fieldLink "StandUpBookModel" (46 : Nat) "StandUpBookModel" "readPiece" "[I") ∈ pm_tbl := pm_mem 883 (by decide +kernel) rfl
theorem kw_884 : (Jvm.Cond.fieldLink "StandUpBookModel" (49 : Nat) "StandUpBookModel" "before" "[I") ∈ pm_tbl := pm_mem 884 (by decide +kernel) rfl
theorem kw_885 : (Jvm.Cond.fieldLink "StandUpBookModel" (205 : Nat) "StandUpBookModel" "sticking" "I") ∈ pm_tbl := pm_mem 885 (by decide +kernel) rfl
theorem kw_886 : (Jvm.Cond.fieldLink "StandUpBookModel" (52 : Nat) "StandUpBookModel" "high" "[I") ∈ pm_tbl := pm_mem 886 (by decide +kernel) rfl
theorem kw_887 : (Jvm.Cond.fieldLink "StandUpBookModel" (55 : Nat) "StandUpBookModel" "ahead" "[I") ∈ pm_tbl := pm_mem 887 (by decide +kernel) rfl
theorem kw_888 : (Jvm.Cond.fieldLink "StandUpBookModel" (112 : Nat) "StandUpBookModel" "undoMany" "I") ∈ pm_tbl := pm_mem 888 (by decide +kernel) rfl
theorem kw_889 : (Jvm.Cond.fieldLink "StandUpBookModel" (58 : Nat) "StandUpBookModel" "aside" "[I") ∈ pm_tbl := pm_mem 889 (by decide +kernel) rfl
theorem kw_890 : (Jvm.Cond.fieldLink "StandUpBookModel" (61 : Nat) "StandUpBookModel" "numbers" "[I") ∈ pm_tbl := pm_mem 890 (by decide +kernel) rfl
theorem kw_891 : (Jvm.Cond.fieldLink "StandUpBookModel" (64 : Nat) "StandUpBookModel" "seenBy" "[I") ∈ pm_tbl := pm_mem 891 (by decide +kernel) rfl
theorem kw_892 : (Jvm.Cond.fieldLink "StandUpBookModel" (67 : Nat) "StandUpBookModel" "walk" "[I") ∈ pm_tbl := pm_mem 892 (by decide +kernel) rfl
theorem kw_893 : (Jvm.Cond.fieldLink "StandUpBookModel" (70 : Nat) "StandUpBookModel" "bestWalk" "[I") ∈ pm_tbl := pm_mem 893 (by decide +kernel) rfl
theorem kw_894 : (Jvm.Cond.fieldLink "StandUpBookModel" (258 : Nat) "StandUpBookModel" "steps" "I") ∈ pm_tbl := pm_mem 894 (by decide +kernel) rfl
theorem kw_895 : (Jvm.Cond.fieldLink "StandUpBookModel" (73 : Nat) "StandUpBookModel" "wins" "[I") ∈ pm_tbl := pm_mem 895 (by decide +kernel) rfl
theorem kw_896 : (Jvm.Cond.fieldLink "StandUpBookModel" (76 : Nat) "StandUpBookModel" "seenMany" "[I") ∈ pm_tbl := pm_mem 896 (by decide +kernel) rfl
theorem kw_897 : (Jvm.Cond.fieldLink "StandUpBookModel" (79 : Nat) "StandUpBookModel" "highest" "[I") ∈ pm_tbl := pm_mem 897 (by decide +kernel) rfl
theorem kw_898 : (Jvm.Cond.fieldLink "StandUpBookModel" (309 : Nat) "StandUpBookModel" "above" "J") ∈ pm_tbl := pm_mem 898 (by decide +kernel) rfl
theorem kw_899 : (Jvm.Cond.fieldLink "StandUpBookModel" (82 : Nat) "StandUpBookModel" "below" "J") ∈ pm_tbl := pm_mem 899 (by decide +kernel) rfl
theorem kw_900 : (Jvm.Cond.fieldLink "StandUpBookModel" (86 : Nat) "StandUpBookModel" "images" "[I") ∈ pm_tbl := pm_mem 900 (by decide +kernel) rfl
theorem kw_901 : (Jvm.Cond.fieldLink "StandUpBookModel" (89 : Nat) "StandUpBookModel" "isKept" "[I") ∈ pm_tbl := pm_mem 901 (by decide +kernel) rfl
theorem kw_902 : (Jvm.Cond.fieldLink "StandUpBookModel" (340 : Nat) "StandUpBookModel" "h0" "J") ∈ pm_tbl := pm_mem 902 (by decide +kernel) rfl
theorem kw_135 : (Jvm.Cond.classLink "StandUpBook$Page" (9 : Nat) "StandUpBook$Piece") ∈ pm_tbl := pm_mem 135 (by decide +kernel) rfl
theorem kw_126 : (Jvm.Cond.classLink "StandUpBook$Spread" (9 : Nat) "StandUpBook$Page") ∈ pm_tbl := pm_mem 126 (by decide +kernel) rfl
theorem kw_128 : (Jvm.Cond.classLink "StandUpBook$Spread" (17 : Nat) "[[I") ∈ pm_tbl := pm_mem 128 (by decide +kernel) rfl
theorem kw_29 : (Jvm.Cond.classLink "StandUpBook" (9 : Nat) "StandUpBook$Spread") ∈ pm_tbl := pm_mem 29 (by decide +kernel) rfl
theorem kw_31 : (Jvm.Cond.classLink "StandUpBook" (19 : Nat) "StandUpBook$Text") ∈ pm_tbl := pm_mem 31 (by decide +kernel) rfl
theorem kw_62 : (Jvm.Cond.classLink "StandUpBook" (26 : Nat) "StandUpBook$Walk") ∈ pm_tbl := pm_mem 62 (by decide +kernel) rfl
theorem kw_78 : (Jvm.Cond.classLink "StandUpBook" (57 : Nat) "StandUpBook$Vee") ∈ pm_tbl := pm_mem 78 (by decide +kernel) rfl
theorem kw_86 : (Jvm.Cond.classLink "StandUpBook" (60 : Nat) "StandUpBook$Tent") ∈ pm_tbl := pm_mem 86 (by decide +kernel) rfl
theorem kw_93 : (Jvm.Cond.classLink "StandUpBook" (63 : Nat) "StandUpBook$Box") ∈ pm_tbl := pm_mem 93 (by decide +kernel) rfl
theorem kw_100 : (Jvm.Cond.classLink "StandUpBook" (66 : Nat) "StandUpBook$Flap") ∈ pm_tbl := pm_mem 100 (by decide +kernel) rfl
theorem kw_107 : (Jvm.Cond.classLink "StandUpBook" (69 : Nat) "StandUpBook$Stage") ∈ pm_tbl := pm_mem 107 (by decide +kernel) rfl
theorem kw_114 : (Jvm.Cond.classLink "StandUpBook" (72 : Nat) "StandUpBook$Wheel") ∈ pm_tbl := pm_mem 114 (by decide +kernel) rfl
theorem kw_239 : (Jvm.Cond.classLink "StandUpBook" (82 : Nat) "StandUpBook$Page") ∈ pm_tbl := pm_mem 239 (by decide +kernel) rfl
theorem kw_21 : (Jvm.Cond.classLink "StandUpBookLaw" (7 : Nat) "StandUpBook") ∈ pm_tbl := pm_mem 21 (by decide +kernel) rfl
theorem kw_853 : (Jvm.Cond.classLink "StandUpBookLaw" (10 : Nat) "StandUpBookModel") ∈ pm_tbl := pm_mem 853 (by decide +kernel) rfl
theorem kw_563 : (Jvm.Cond.constant "java/lang/Integer" (265 : Nat) (1431655765 : Int32)) ∈ pm_tbl := pm_mem 563 (by decide +kernel) rfl
theorem kw_564 : (Jvm.Cond.constant "java/lang/Integer" (266 : Nat) (858993459 : Int32)) ∈ pm_tbl := pm_mem 564 (by decide +kernel) rfl
theorem kw_565 : (Jvm.Cond.constant "java/lang/Integer" (267 : Nat) (252645135 : Int32)) ∈ pm_tbl := pm_mem 565 (by decide +kernel) rfl
theorem kw_794 : (Jvm.Cond.constant "StandUpBook" (303 : Nat) (999999 : Int32)) ∈ pm_tbl := pm_mem 794 (by decide +kernel) rfl
theorem kw_795 : (Jvm.Cond.constantLong "StandUpBook" (304 : Nat) (1103515245 : Int64)) ∈ pm_tbl := pm_mem 795 (by decide +kernel) rfl
theorem kw_796 : (Jvm.Cond.constantLong "StandUpBook" (306 : Nat) (12345 : Int64)) ∈ pm_tbl := pm_mem 796 (by decide +kernel) rfl
theorem kw_797 : (Jvm.Cond.constantLong "StandUpBook" (308 : Nat) (2147483648 : Int64)) ∈ pm_tbl := pm_mem 797 (by decide +kernel) rfl
theorem kw_798 : (Jvm.Cond.constantLong "StandUpBook" (310 : Nat) (65536 : Int64)) ∈ pm_tbl := pm_mem 798 (by decide +kernel) rfl
theorem kw_799 : (Jvm.Cond.constantLong "StandUpBook" (312 : Nat) (13 : Int64)) ∈ pm_tbl := pm_mem 799 (by decide +kernel) rfl
theorem kw_835 : (Jvm.Cond.constantLong "StandUpBook" (320 : Nat) (1511 : Int64)) ∈ pm_tbl := pm_mem 835 (by decide +kernel) rfl
theorem kw_840 : (Jvm.Cond.constantLong "StandUpBook" (367 : Nat) (31 : Int64)) ∈ pm_tbl := pm_mem 840 (by decide +kernel) rfl
theorem kw_1214 : (Jvm.Cond.constant "StandUpBookModel" (273 : Nat) (1048576 : Int32)) ∈ pm_tbl := pm_mem 1214 (by decide +kernel) rfl
theorem kw_1306 : (Jvm.Cond.constantLong "StandUpBookModel" (312 : Nat) (10 : Int64)) ∈ pm_tbl := pm_mem 1306 (by decide +kernel) rfl
theorem kw_1315 : (Jvm.Cond.constant "StandUpBookModel" (318 : Nat) (999999 : Int32)) ∈ pm_tbl := pm_mem 1315 (by decide +kernel) rfl
theorem kw_1316 : (Jvm.Cond.constantLong "StandUpBookModel" (319 : Nat) (1103515245 : Int64)) ∈ pm_tbl := pm_mem 1316 (by decide +kernel) rfl
theorem kw_1317 : (Jvm.Cond.constantLong "StandUpBookModel" (321 : Nat) (12345 : Int64)) ∈ pm_tbl := pm_mem 1317 (by decide +kernel) rfl
theorem kw_1318 : (Jvm.Cond.constantLong "StandUpBookModel" (323 : Nat) (2147483648 : Int64)) ∈ pm_tbl := pm_mem 1318 (by decide +kernel) rfl
theorem kw_1319 : (Jvm.Cond.constantLong "StandUpBookModel" (325 : Nat) (65536 : Int64)) ∈ pm_tbl := pm_mem 1319 (by decide +kernel) rfl
theorem kw_1320 : (Jvm.Cond.constantLong "StandUpBookModel" (327 : Nat) (13 : Int64)) ∈ pm_tbl := pm_mem 1320 (by decide +kernel) rfl
theorem kw_1357 : (Jvm.Cond.constantLong "StandUpBookModel" (343 : Nat) (1511 : Int64)) ∈ pm_tbl := pm_mem 1357 (by decide +kernel) rfl
theorem kw_1362 : (Jvm.Cond.constantLong "StandUpBookModel" (338 : Nat) (31 : Int64)) ∈ pm_tbl := pm_mem 1362 (by decide +kernel) rfl
theorem kw_536 : (Jvm.Cond.code ({ cls := "StandUpBook$Vee", name := "riseOf", desc := "(III)I" } : Jvm.MethodName) prog_10_method_2_code (4 : Nat) (Option.some Jvm.ClassFile.FieldType.int)) ∈ pm_tbl := pm_mem 536 (by decide +kernel) rfl
theorem kw_609 : (Jvm.Cond.code ({ cls := "StandUpBook$Vee", name := "reachOf", desc := "(II)I" } : Jvm.MethodName) prog_10_method_3_code (3 : Nat) (Option.some Jvm.ClassFile.FieldType.int)) ∈ pm_tbl := pm_mem 609 (by decide +kernel) rfl
theorem kw_337 : (Jvm.Cond.code ({ cls := "StandUpBook$Vee", name := "bearing", desc := "()I" } : Jvm.MethodName) prog_10_method_4_code (1 : Nat) (Option.some Jvm.ClassFile.FieldType.int)) ∈ pm_tbl := pm_mem 337 (by decide +kernel) rfl
theorem kw_134 : (Jvm.Cond.methodLink "StandUpBook$Page" (3 : Nat) ({ cls := "java/lang/Object", name := "<init>", desc := "()V" } : Jvm.MethodName)) ∈ pm_tbl := pm_mem 134 (by decide +kernel) rfl
theorem kw_141 : (Jvm.Cond.methodLink "StandUpBook$Piece" (1 : Nat) ({ cls := "java/lang/Object", name := "<init>", desc := "()V" } : Jvm.MethodName)) ∈ pm_tbl := pm_mem 141 (by decide +kernel) rfl
theorem kw_125 : (Jvm.Cond.methodLink "StandUpBook$Spread" (3 : Nat) ({ cls := "java/lang/Object", name := "<init>", desc := "()V" } : Jvm.MethodName)) ∈ pm_tbl := pm_mem 125 (by decide +kernel) rfl
theorem kw_36 : (Jvm.Cond.methodLink "StandUpBook$Text" (3 : Nat) ({ cls := "java/lang/Object", name := "<init>", desc := "()V" } : Jvm.MethodName)) ∈ pm_tbl := pm_mem 36 (by decide +kernel) rfl
theorem kw_84 : (Jvm.Cond.methodLink "StandUpBook$Vee" (3 : Nat) ({ cls := "java/lang/Object", name := "<init>", desc := "()V" } : Jvm.MethodName)) ∈ pm_tbl := pm_mem 84 (by decide +kernel) rfl
theorem kw_67 : (Jvm.Cond.methodLink "StandUpBook$Walk" (3 : Nat) ({ cls := "java/lang/Object", name := "<init>", desc := "()V" } : Jvm.MethodName)) ∈ pm_tbl := pm_mem 67 (by decide +kernel) rfl
theorem kw_26 : (Jvm.Cond.methodLink "StandUpBook" (1 : Nat) ({ cls := "java/lang/Object", name := "<init>", desc := "()V" } : Jvm.MethodName)) ∈ pm_tbl := pm_mem 26 (by decide +kernel) rfl
theorem kw_858 : (Jvm.Cond.methodLink "StandUpBookModel" (7 : Nat) ({ cls := "java/lang/Object", name := "<init>", desc := "()V" } : Jvm.MethodName)) ∈ pm_tbl := pm_mem 858 (by decide +kernel) rfl
theorem kw_812 : (Jvm.Cond.methodLink "StandUpBook$Spread" (53 : Nat) ({ cls := "java/lang/System", name := "arraycopy", desc := "(Ljava/lang/Object;ILjava/lang/Object;II)V" } : Jvm.MethodName)) ∈ pm_tbl := pm_mem 812 (by decide +kernel) rfl
theorem kw_814 : (Jvm.Cond.native ({ cls := "java/lang/System", name := "arraycopy", desc := "(Ljava/lang/Object;ILjava/lang/Object;II)V" } : Jvm.MethodName)) ∈ pm_tbl := pm_mem 814 (by decide +kernel) rfl
theorem kw_813 : (Jvm.Cond.static ({ cls := "java/lang/System", name := "arraycopy", desc := "(Ljava/lang/Object;ILjava/lang/Object;II)V" } : Jvm.MethodName)) ∈ pm_tbl := pm_mem 813 (by decide +kernel) rfl
theorem kw_20 : (Jvm.Cond.initialized "java/lang/System") ∈ pm_tbl := pm_mem 20 (by decide +kernel) rfl
theorem kw_27 : (Jvm.Cond.instanceMethod ({ cls := "java/lang/Object", name := "<init>", desc := "()V" } : Jvm.MethodName)) ∈ pm_tbl := pm_mem 27 (by decide +kernel) rfl
theorem kw_28 : (Jvm.Cond.code ({ cls := "java/lang/Object", name := "<init>", desc := "()V" } : Jvm.MethodName) object_method_1_code (1 : Nat) (Option.none : Option Jvm.ClassFile.FieldType)) ∈ pm_tbl := pm_mem 28 (by decide +kernel) rfl
theorem kw_457 : (Jvm.Cond.methodLink "StandUpBook$Page" (74 : Nat) ({ cls := "java/lang/Math", name := "abs", desc := "(I)I" } : Jvm.MethodName)) ∈ pm_tbl := pm_mem 457 (by decide +kernel) rfl
theorem kw_464 : (Jvm.Cond.methodLink "StandUpBook$Page" (83 : Nat) ({ cls := "java/lang/Math", name := "min", desc := "(II)I" } : Jvm.MethodName)) ∈ pm_tbl := pm_mem 464 (by decide +kernel) rfl
theorem kw_654 : (Jvm.Cond.methodLink "StandUpBook$Page" (117 : Nat) ({ cls := "java/lang/Math", name := "max", desc := "(II)I" } : Jvm.MethodName)) ∈ pm_tbl := pm_mem 654 (by decide +kernel) rfl
theorem kw_673 : (Jvm.Cond.methodLink "StandUpBook$Walk" (19 : Nat) ({ cls := "java/lang/Math", name := "max", desc := "(II)I" } : Jvm.MethodName)) ∈ pm_tbl := pm_mem 673 (by decide +kernel) rfl
theorem kw_679 : (Jvm.Cond.methodLink "StandUpBook$Walk" (29 : Nat) ({ cls := "java/lang/Math", name := "min", desc := "(II)I" } : Jvm.MethodName)) ∈ pm_tbl := pm_mem 679 (by decide +kernel) rfl
theorem kw_704 : (Jvm.Cond.methodLink "StandUpBook" (337 : Nat) ({ cls := "java/lang/Math", name := "min", desc := "(II)I" } : Jvm.MethodName)) ∈ pm_tbl := pm_mem 704 (by decide +kernel) rfl
theorem kw_705 : (Jvm.Cond.methodLink "StandUpBook" (342 : Nat) ({ cls := "java/lang/Math", name := "max", desc := "(II)I" } : Jvm.MethodName)) ∈ pm_tbl := pm_mem 705 (by decide +kernel) rfl
theorem kw_655 : (Jvm.Cond.static ({ cls := "java/lang/Math", name := "max", desc := "(II)I" } : Jvm.MethodName)) ∈ pm_tbl := pm_mem 655 (by decide +kernel) rfl
theorem kw_656 : (Jvm.Cond.code ({ cls := "java/lang/Math", name := "max", desc := "(II)I" } : Jvm.MethodName) prog_16_method_65_code (2 : Nat) (Option.some Jvm.ClassFile.FieldType.int)) ∈ pm_tbl := pm_mem 656 (by decide +kernel) rfl
theorem kw_465 : (Jvm.Cond.static ({ cls := "java/lang/Math", name := "min", desc := "(II)I" } : Jvm.MethodName)) ∈ pm_tbl := pm_mem 465 (by decide +kernel) rfl
theorem kw_466 : (Jvm.Cond.code ({ cls := "java/lang/Math", name := "min", desc := "(II)I" } : Jvm.MethodName) prog_16_method_69_code (2 : Nat) (Option.some Jvm.ClassFile.FieldType.int)) ∈ pm_tbl := pm_mem 466 (by decide +kernel) rfl
theorem kw_458 : (Jvm.Cond.static ({ cls := "java/lang/Math", name := "abs", desc := "(I)I" } : Jvm.MethodName)) ∈ pm_tbl := pm_mem 458 (by decide +kernel) rfl
theorem kw_459 : (Jvm.Cond.code ({ cls := "java/lang/Math", name := "abs", desc := "(I)I" } : Jvm.MethodName) prog_16_method_59_code (1 : Nat) (Option.some Jvm.ClassFile.FieldType.int)) ∈ pm_tbl := pm_mem 459 (by decide +kernel) rfl
theorem kw_18 : (Jvm.Cond.initialized "java/lang/Math") ∈ pm_tbl := pm_mem 18 (by decide +kernel) rfl
theorem kw_97 : (Jvm.Cond.code ({ cls := "StandUpBook$Box", name := "<init>", desc := "()V" } : Jvm.MethodName) prog_2_method_1_code (1 : Nat) (Option.none : Option Jvm.ClassFile.FieldType)) ∈ pm_tbl := pm_mem 97 (by decide +kernel) rfl
theorem kw_518 : (Jvm.Cond.code ({ cls := "StandUpBook$Box", name := "riseOf", desc := "(III)I" } : Jvm.MethodName) prog_2_method_2_code (4 : Nat) (Option.some Jvm.ClassFile.FieldType.int)) ∈ pm_tbl := pm_mem 518 (by decide +kernel) rfl
theorem kw_597 : (Jvm.Cond.code ({ cls := "StandUpBook$Box", name := "reachOf", desc := "(II)I" } : Jvm.MethodName) prog_2_method_3_code (3 : Nat) (Option.some Jvm.ClassFile.FieldType.int)) ∈ pm_tbl := pm_mem 597 (by decide +kernel) rfl
theorem kw_323 : (Jvm.Cond.code ({ cls := "StandUpBook$Box", name := "bearing", desc := "()I" } : Jvm.MethodName) prog_2_method_4_code (1 : Nat) (Option.some Jvm.ClassFile.FieldType.int)) ∈ pm_tbl := pm_mem 323 (by decide +kernel) rfl
theorem kw_104 : (Jvm.Cond.code ({ cls := "StandUpBook$Flap", name := "<init>", desc := "()V" } : Jvm.MethodName) prog_3_method_1_code (1 : Nat) (Option.none : Option Jvm.ClassFile.FieldType)) ∈ pm_tbl := pm_mem 104 (by decide +kernel) rfl
theorem kw_522 : (Jvm.Cond.code ({ cls := "StandUpBook$Flap", name := "riseOf", desc := "(III)I" } : Jvm.MethodName) prog_3_method_2_code (4 : Nat) (Option.some Jvm.ClassFile.FieldType.int)) ∈ pm_tbl := pm_mem 522 (by decide +kernel) rfl
theorem kw_601 : (Jvm.Cond.code ({ cls := "StandUpBook$Flap", name := "reachOf", desc := "(II)I" } : Jvm.MethodName) prog_3_method_3_code (3 : Nat) (Option.some Jvm.ClassFile.FieldType.int)) ∈ pm_tbl := pm_mem 601 (by decide +kernel) rfl
theorem kw_133 : (Jvm.Cond.code ({ cls := "StandUpBook$Page", name := "<init>", desc := "([LStandUpBook$Vee;)V" } : Jvm.MethodName) prog_4_method_1_code (3 : Nat) (Option.none : Option Jvm.ClassFile.FieldType)) ∈ pm_tbl := pm_mem 133 (by decide +kernel) rfl
theorem kw_299 : (Jvm.Cond.code ({ cls := "StandUpBook$Page", name := "startAnew", desc := "(I)V" } : Jvm.MethodName) prog_4_method_2_code (2 : Nat) (Option.none : Option Jvm.ClassFile.FieldType)) ∈ pm_tbl := pm_mem 299 (by decide +kernel) rfl
theorem kw_475 : (Jvm.Cond.code ({ cls := "StandUpBook$Page", name := "copyFrom", desc := "(LStandUpBook$Page;)V" } : Jvm.MethodName) prog_4_method_3_code (3 : Nat) (Option.none : Option Jvm.ClassFile.FieldType)) ∈ pm_tbl := pm_mem 475 (by decide +kernel) rfl
theorem kw_307 : (Jvm.Cond.code ({ cls := "StandUpBook$Page", name := "isFull", desc := "()Z" } : Jvm.MethodName) prog_4_method_4_code (1 : Nat) (Option.some Jvm.ClassFile.FieldType.boolean)) ∈ pm_tbl := pm_mem 307 (by decide +kernel) rfl
theorem kw_315 : (Jvm.Cond.code ({ cls := "StandUpBook$Page", name := "glue", desc := "(IIIII)I" } : Jvm.MethodName) prog_4_method_5_code (7 : Nat) (Option.some Jvm.ClassFile.FieldType.int)) ∈ pm_tbl := pm_mem 315 (by decide +kernel) rfl
theorem kw_456 : (Jvm.Cond.code ({ cls := "StandUpBook$Page", name := "openTo", desc := "(I)V" } : Jvm.MethodName) prog_4_method_6_code (4 : Nat) (Option.none : Option Jvm.ClassFile.FieldType)) ∈ pm_tbl := pm_mem 456 (by decide +kernel) rfl
theorem kw_556 : (Jvm.Cond.code ({ cls := "StandUpBook$Page", name := "tearOut", desc := "(I)I" } : Jvm.MethodName) prog_4_method_7_code (5 : Nat) (Option.some Jvm.ClassFile.FieldType.int)) ∈ pm_tbl := pm_mem 556 (by decide +kernel) rfl
theorem kw_559 : (Jvm.Cond.code ({ cls := "StandUpBook$Page", name := "numberWithout", desc := "(II)I" } : Jvm.MethodName) prog_4_method_8_code (2 : Nat) (Option.some Jvm.ClassFile.FieldType.int)) ∈ pm_tbl := pm_mem 559 (by decide +kernel) rfl
theorem kw_586 : (Jvm.Cond.code ({ cls := "StandUpBook$Page", name := "rises", desc := "(II)I" } : Jvm.MethodName) prog_4_method_9_code (3 : Nat) (Option.some Jvm.ClassFile.FieldType.int)) ∈ pm_tbl := pm_mem 586 (by decide +kernel) rfl
theorem kw_590 : (Jvm.Cond.code ({ cls := "StandUpBook$Page", name := "reaches", desc := "(I)I" } : Jvm.MethodName) prog_4_method_10_code (2 : Nat) (Option.some Jvm.ClassFile.FieldType.int)) ∈ pm_tbl := pm_mem 590 (by decide +kernel) rfl
theorem kw_778 : (Jvm.Cond.code ({ cls := "StandUpBook$Page", name := "looseOnes", desc := "()I" } : Jvm.MethodName) prog_4_method_11_code (3 : Nat) (Option.some Jvm.ClassFile.FieldType.int)) ∈ pm_tbl := pm_mem 778 (by decide +kernel) rfl
theorem kw_696 : (Jvm.Cond.code ({ cls := "StandUpBook$Page", name := "sticksWith", desc := "(I)Z" } : Jvm.MethodName) prog_4_method_12_code (3 : Nat) (Option.some Jvm.ClassFile.FieldType.boolean)) ∈ pm_tbl := pm_mem 696 (by decide +kernel) rfl
theorem kw_830 : (Jvm.Cond.code ({ cls := "StandUpBook$Page", name := "wearOfAll", desc := "()I" } : Jvm.MethodName) prog_4_method_13_code (3 : Nat) (Option.some Jvm.ClassFile.FieldType.int)) ∈ pm_tbl := pm_mem 830 (by decide +kernel) rfl
theorem kw_508 : (Jvm.Cond.code ({ cls := "StandUpBook$Page", name := "measure", desc := "(II)V" } : Jvm.MethodName) prog_4_method_14_code (8 : Nat) (Option.none : Option Jvm.ClassFile.FieldType)) ∈ pm_tbl := pm_mem 508 (by decide +kernel) rfl
theorem kw_504 : (Jvm.Cond.code ({ cls := "StandUpBook$Page", name := "visibleAt", desc := "(II)I" } : Jvm.MethodName) prog_4_method_15_code (5 : Nat) (Option.some Jvm.ClassFile.FieldType.int)) ∈ pm_tbl := pm_mem 504 (by decide +kernel) rfl
theorem kw_540 : (Jvm.Cond.code ({ cls := "StandUpBook$Page", name := "isHidden", desc := "(I)Z" } : Jvm.MethodName) prog_4_method_16_code (3 : Nat) (Option.some Jvm.ClassFile.FieldType.boolean)) ∈ pm_tbl := pm_mem 540 (by decide +kernel) rfl
theorem kw_635 : (Jvm.Cond.code ({ cls := "StandUpBook$Page", name := "visibleMany", desc := "(I)I" } : Jvm.MethodName) prog_4_method_17_code (2 : Nat) (Option.some Jvm.ClassFile.FieldType.int)) ∈ pm_tbl := pm_mem 635 (by decide +kernel) rfl
theorem kw_758 : (Jvm.Cond.code ({ cls := "StandUpBook$Page", name := "highestAt", desc := "(I)I" } : Jvm.MethodName) prog_4_method_18_code (4 : Nat) (Option.some Jvm.ClassFile.FieldType.int)) ∈ pm_tbl := pm_mem 758 (by decide +kernel) rfl
theorem kw_648 : (Jvm.Cond.code ({ cls := "StandUpBook$Page", name := "reachesInAll", desc := "(I)I" } : Jvm.MethodName) prog_4_method_19_code (5 : Nat) (Option.some Jvm.ClassFile.FieldType.int)) ∈ pm_tbl := pm_mem 648 (by decide +kernel) rfl
theorem kw_644 : (Jvm.Cond.code ({ cls := "StandUpBook$Page", name := "sticksOut", desc := "()I" } : Jvm.MethodName) prog_4_method_20_code (3 : Nat) (Option.some Jvm.ClassFile.FieldType.int)) ∈ pm_tbl := pm_mem 644 (by decide +kernel) rfl
theorem kw_653 : (Jvm.Cond.code ({ cls := "StandUpBook$Page", name := "leastWide", desc := "()I" } : Jvm.MethodName) prog_4_method_21_code (3 : Nat) (Option.some Jvm.ClassFile.FieldType.int)) ∈ pm_tbl := pm_mem 653 (by decide +kernel) rfl
theorem kw_844 : (Jvm.Cond.code ({ cls := "StandUpBook$Page", name := "mixedInto", desc := "(J)J" } : Jvm.MethodName) prog_4_method_22_code (6 : Nat) (Option.some Jvm.ClassFile.FieldType.long)) ∈ pm_tbl := pm_mem 844 (by decide +kernel) rfl
theorem kw_140 : (Jvm.Cond.code ({ cls := "StandUpBook$Piece", name := "<init>", desc := "()V" } : Jvm.MethodName) prog_5_method_1_code (1 : Nat) (Option.none : Option Jvm.ClassFile.FieldType)) ∈ pm_tbl := pm_mem 140 (by decide +kernel) rfl
theorem kw_463 : (Jvm.Cond.code ({ cls := "StandUpBook$Piece", name := "isStuck", desc := "()Z" } : Jvm.MethodName) prog_5_method_2_code (1 : Nat) (Option.some Jvm.ClassFile.FieldType.boolean)) ∈ pm_tbl := pm_mem 463 (by decide +kernel) rfl
theorem kw_479 : (Jvm.Cond.code ({ cls := "StandUpBook$Piece", name := "copyFrom", desc := "(LStandUpBook$Piece;)V" } : Jvm.MethodName) prog_5_method_3_code (2 : Nat) (Option.none : Option Jvm.ClassFile.FieldType)) ∈ pm_tbl := pm_mem 479 (by decide +kernel) rfl
theorem kw_848 : (Jvm.Cond.code ({ cls := "StandUpBook$Piece", name := "mixedInto", desc := "(J)J" } : Jvm.MethodName) prog_5_method_4_code (5 : Nat) (Option.some Jvm.ClassFile.FieldType.long)) ∈ pm_tbl := pm_mem 848 (by decide +kernel) rfl
theorem kw_124 : (Jvm.Cond.code ({ cls := "StandUpBook$Spread", name := "<init>", desc := "([LStandUpBook$Vee;)V" } : Jvm.MethodName) prog_6_method_1_code (3 : Nat) (Option.none : Option Jvm.ClassFile.FieldType)) ∈ pm_tbl := pm_mem 124 (by decide +kernel) rfl
theorem kw_295 : (Jvm.Cond.code ({ cls := "StandUpBook$Spread", name := "startAnew", desc := "(I)V" } : Jvm.MethodName) prog_6_method_2_code (2 : Nat) (Option.none : Option Jvm.ClassFile.FieldType)) ∈ pm_tbl := pm_mem 295 (by decide +kernel) rfl
theorem kw_494 : (Jvm.Cond.code ({ cls := "StandUpBook$Spread", name := "remember", desc := "()V" } : Jvm.MethodName) prog_6_method_3_code (1 : Nat) (Option.none : Option Jvm.ClassFile.FieldType)) ∈ pm_tbl := pm_mem 494 (by decide +kernel) rfl
theorem kw_498 : (Jvm.Cond.code ({ cls := "StandUpBook$Spread", name := "dropOldest", desc := "()V" } : Jvm.MethodName) prog_6_method_4_code (3 : Nat) (Option.none : Option Jvm.ClassFile.FieldType)) ∈ pm_tbl := pm_mem 498 (by decide +kernel) rfl
theorem kw_573 : (Jvm.Cond.code ({ cls := "StandUpBook$Spread", name := "stepBack", desc := "()V" } : Jvm.MethodName) prog_6_method_5_code (1 : Nat) (Option.none : Option Jvm.ClassFile.FieldType)) ∈ pm_tbl := pm_mem 573 (by decide +kernel) rfl
theorem kw_811 : (Jvm.Cond.code ({ cls := "StandUpBook$Spread", name := "copyFrom", desc := "(LStandUpBook$Spread;)V" } : Jvm.MethodName) prog_6_method_6_code (3 : Nat) (Option.none : Option Jvm.ClassFile.FieldType)) ∈ pm_tbl := pm_mem 811 (by decide +kernel) rfl
theorem kw_111 : (Jvm.Cond.code ({ cls := "StandUpBook$Stage", name := "<init>", desc := "()V" } : Jvm.MethodName) prog_7_method_1_code (1 : Nat) (Option.none : Option Jvm.ClassFile.FieldType)) ∈ pm_tbl := pm_mem 111 (by decide +kernel) rfl
theorem kw_526 : (Jvm.Cond.code ({ cls := "StandUpBook$Stage", name := "riseOf", desc := "(III)I" } : Jvm.MethodName) prog_7_method_2_code (4 : Nat) (Option.some Jvm.ClassFile.FieldType.int)) ∈ pm_tbl := pm_mem 526 (by decide +kernel) rfl
theorem kw_328 : (Jvm.Cond.code ({ cls := "StandUpBook$Stage", name := "bearing", desc := "()I" } : Jvm.MethodName) prog_7_method_3_code (1 : Nat) (Option.some Jvm.ClassFile.FieldType.int)) ∈ pm_tbl := pm_mem 328 (by decide +kernel) rfl
theorem kw_90 : (Jvm.Cond.code ({ cls := "StandUpBook$Tent", name := "<init>", desc := "()V" } : Jvm.MethodName) prog_8_method_1_code (1 : Nat) (Option.none : Option Jvm.ClassFile.FieldType)) ∈ pm_tbl := pm_mem 90 (by decide +kernel) rfl
theorem kw_530 : (Jvm.Cond.code ({ cls := "StandUpBook$Tent", name := "riseOf", desc := "(III)I" } : Jvm.MethodName) prog_8_method_2_code (5 : Nat) (Option.some Jvm.ClassFile.FieldType.int)) ∈ pm_tbl := pm_mem 530 (by decide +kernel) rfl
theorem kw_35 : (Jvm.Cond.code ({ cls := "StandUpBook$Text", name := "<init>", desc := "()V" } : Jvm.MethodName) prog_9_method_1_code (1 : Nat) (Option.none : Option Jvm.ClassFile.FieldType)) ∈ pm_tbl := pm_mem 35 (by decide +kernel) rfl
theorem kw_345 : (Jvm.Cond.code ({ cls := "StandUpBook$Text", name := "append", desc := "(I)V" } : Jvm.MethodName) prog_9_method_2_code (2 : Nat) (Option.none : Option Jvm.ClassFile.FieldType)) ∈ pm_tbl := pm_mem 345 (by decide +kernel) rfl
theorem kw_357 : (Jvm.Cond.code ({ cls := "StandUpBook$Text", name := "tellTo", desc := "(LStandUpBook$Page;)I" } : Jvm.MethodName) prog_9_method_3_code (4 : Nat) (Option.some Jvm.ClassFile.FieldType.int)) ∈ pm_tbl := pm_mem 357 (by decide +kernel) rfl
theorem kw_377 : (Jvm.Cond.code ({ cls := "StandUpBook$Text", name := "tellBook", desc := "(LStandUpBook$Page;)V" } : Jvm.MethodName) prog_9_method_4_code (3 : Nat) (Option.none : Option Jvm.ClassFile.FieldType)) ∈ pm_tbl := pm_mem 377 (by decide +kernel) rfl
theorem kw_445 : (Jvm.Cond.code ({ cls := "StandUpBook$Text", name := "tellPiece", desc := "(LStandUpBook$Page;Z)V" } : Jvm.MethodName) prog_9_method_5_code (8 : Nat) (Option.none : Option Jvm.ClassFile.FieldType)) ∈ pm_tbl := pm_mem 445 (by decide +kernel) rfl
theorem kw_452 : (Jvm.Cond.code ({ cls := "StandUpBook$Text", name := "tellOpen", desc := "(LStandUpBook$Page;)V" } : Jvm.MethodName) prog_9_method_6_code (3 : Nat) (Option.none : Option Jvm.ClassFile.FieldType)) ∈ pm_tbl := pm_mem 452 (by decide +kernel) rfl
theorem kw_471 : (Jvm.Cond.code ({ cls := "StandUpBook$Text", name := "tellPull", desc := "(LStandUpBook$Page;)V" } : Jvm.MethodName) prog_9_method_7_code (4 : Nat) (Option.none : Option Jvm.ClassFile.FieldType)) ∈ pm_tbl := pm_mem 471 (by decide +kernel) rfl
theorem kw_434 : (Jvm.Cond.code ({ cls := "StandUpBook$Text", name := "number", desc := "(II)I" } : Jvm.MethodName) prog_9_method_8_code (4 : Nat) (Option.some Jvm.ClassFile.FieldType.int)) ∈ pm_tbl := pm_mem 434 (by decide +kernel) rfl
theorem kw_438 : (Jvm.Cond.code ({ cls := "StandUpBook$Text", name := "endItem", desc := "()V" } : Jvm.MethodName) prog_9_method_9_code (1 : Nat) (Option.none : Option Jvm.ClassFile.FieldType)) ∈ pm_tbl := pm_mem 438 (by decide +kernel) rfl
theorem kw_382 : (Jvm.Cond.code ({ cls := "StandUpBook$Text", name := "isWord", desc := "(Ljava/lang/String;)Z" } : Jvm.MethodName) prog_9_method_10_code (3 : Nat) (Option.some Jvm.ClassFile.FieldType.boolean)) ∈ pm_tbl := pm_mem 382 (by decide +kernel) rfl
theorem kw_361 : (Jvm.Cond.code ({ cls := "StandUpBook$Text", name := "step", desc := "()V" } : Jvm.MethodName) prog_9_method_11_code (1 : Nat) (Option.none : Option Jvm.ClassFile.FieldType)) ∈ pm_tbl := pm_mem 361 (by decide +kernel) rfl
theorem kw_373 : (Jvm.Cond.code ({ cls := "StandUpBook$Text", name := "stepOverFigures", desc := "()V" } : Jvm.MethodName) prog_9_method_12_code (1 : Nat) (Option.none : Option Jvm.ClassFile.FieldType)) ∈ pm_tbl := pm_mem 373 (by decide +kernel) rfl
theorem kw_365 : (Jvm.Cond.code ({ cls := "StandUpBook$Text", name := "isLetter", desc := "(I)Z" } : Jvm.MethodName) prog_9_method_13_code (2 : Nat) (Option.some Jvm.ClassFile.FieldType.boolean)) ∈ pm_tbl := pm_mem 365 (by decide +kernel) rfl
theorem kw_369 : (Jvm.Cond.code ({ cls := "StandUpBook$Text", name := "isFigure", desc := "(I)Z" } : Jvm.MethodName) prog_9_method_14_code (2 : Nat) (Option.some Jvm.ClassFile.FieldType.boolean)) ∈ pm_tbl := pm_mem 369 (by decide +kernel) rfl
theorem kw_83 : (Jvm.Cond.code ({ cls := "StandUpBook$Vee", name := "<init>", desc := "()V" } : Jvm.MethodName) prog_10_method_1_code (1 : Nat) (Option.none : Option Jvm.ClassFile.FieldType)) ∈ pm_tbl := pm_mem 83 (by decide +kernel) rfl
theorem kw_66 : (Jvm.Cond.code ({ cls := "StandUpBook$Walk", name := "<init>", desc := "()V" } : Jvm.MethodName) prog_11_method_1_code (1 : Nat) (Option.none : Option Jvm.ClassFile.FieldType)) ∈ pm_tbl := pm_mem 66 (by decide +kernel) rfl
theorem kw_672 : (Jvm.Cond.code ({ cls := "StandUpBook$Walk", name := "covers", desc := "(II)Z" } : Jvm.MethodName) prog_11_method_2_code (5 : Nat) (Option.some Jvm.ClassFile.FieldType.boolean)) ∈ pm_tbl := pm_mem 672 (by decide +kernel) rfl
theorem kw_677 : (Jvm.Cond.code ({ cls := "StandUpBook$Walk", name := "stepsLeft", desc := "(III)I" } : Jvm.MethodName) prog_11_method_3_code (9 : Nat) (Option.some Jvm.ClassFile.FieldType.int)) ∈ pm_tbl := pm_mem 677 (by decide +kernel) rfl
theorem kw_683 : (Jvm.Cond.code ({ cls := "StandUpBook$Walk", name := "openingAfter", desc := "(II)I" } : Jvm.MethodName) prog_11_method_4_code (9 : Nat) (Option.some Jvm.ClassFile.FieldType.int)) ∈ pm_tbl := pm_mem 683 (by decide +kernel) rfl
theorem kw_118 : (Jvm.Cond.code ({ cls := "StandUpBook$Wheel", name := "<init>", desc := "()V" } : Jvm.MethodName) prog_12_method_1_code (1 : Nat) (Option.none : Option Jvm.ClassFile.FieldType)) ∈ pm_tbl := pm_mem 118 (by decide +kernel) rfl
theorem kw_534 : (Jvm.Cond.code ({ cls := "StandUpBook$Wheel", name := "riseOf", desc := "(III)I" } : Jvm.MethodName) prog_12_method_2_code (5 : Nat) (Option.some Jvm.ClassFile.FieldType.int)) ∈ pm_tbl := pm_mem 534 (by decide +kernel) rfl
theorem kw_607 : (Jvm.Cond.code ({ cls := "StandUpBook$Wheel", name := "reachOf", desc := "(II)I" } : Jvm.MethodName) prog_12_method_3_code (3 : Nat) (Option.some Jvm.ClassFile.FieldType.int)) ∈ pm_tbl := pm_mem 607 (by decide +kernel) rfl
theorem kw_333 : (Jvm.Cond.code ({ cls := "StandUpBook$Wheel", name := "bearing", desc := "()I" } : Jvm.MethodName) prog_12_method_4_code (1 : Nat) (Option.some Jvm.ClassFile.FieldType.int)) ∈ pm_tbl := pm_mem 333 (by decide +kernel) rfl
theorem kw_25 : (Jvm.Cond.code ({ cls := "StandUpBook", name := "<init>", desc := "()V" } : Jvm.MethodName) prog_1_method_1_code (3 : Nat) (Option.none : Option Jvm.ClassFile.FieldType)) ∈ pm_tbl := pm_mem 25 (by decide +kernel) rfl
theorem kw_284 : (Jvm.Cond.code ({ cls := "StandUpBook", name := "book", desc := "(I)I" } : Jvm.MethodName) prog_1_method_2_code (3 : Nat) (Option.some Jvm.ClassFile.FieldType.int)) ∈ pm_tbl := pm_mem 284 (by decide +kernel) rfl
theorem kw_303 : (Jvm.Cond.code ({ cls := "StandUpBook", name := "piece", desc := "(IIIII)I" } : Jvm.MethodName) prog_1_method_3_code (6 : Nat) (Option.some Jvm.ClassFile.FieldType.int)) ∈ pm_tbl := pm_mem 303 (by decide +kernel) rfl
theorem kw_341 : (Jvm.Cond.code ({ cls := "StandUpBook", name := "type", desc := "(I)I" } : Jvm.MethodName) prog_1_method_4_code (2 : Nat) (Option.some Jvm.ClassFile.FieldType.int)) ∈ pm_tbl := pm_mem 341 (by decide +kernel) rfl
theorem kw_349 : (Jvm.Cond.code ({ cls := "StandUpBook", name := "clear", desc := "()I" } : Jvm.MethodName) prog_1_method_5_code (2 : Nat) (Option.some Jvm.ClassFile.FieldType.int)) ∈ pm_tbl := pm_mem 349 (by decide +kernel) rfl
theorem kw_353 : (Jvm.Cond.code ({ cls := "StandUpBook", name := "read", desc := "()I" } : Jvm.MethodName) prog_1_method_6_code (2 : Nat) (Option.some Jvm.ClassFile.FieldType.int)) ∈ pm_tbl := pm_mem 353 (by decide +kernel) rfl
theorem kw_483 : (Jvm.Cond.code ({ cls := "StandUpBook", name := "opens", desc := "(I)I" } : Jvm.MethodName) prog_1_method_7_code (2 : Nat) (Option.some Jvm.ClassFile.FieldType.int)) ∈ pm_tbl := pm_mem 483 (by decide +kernel) rfl
theorem kw_544 : (Jvm.Cond.code ({ cls := "StandUpBook", name := "pulls", desc := "(II)I" } : Jvm.MethodName) prog_1_method_8_code (4 : Nat) (Option.some Jvm.ClassFile.FieldType.int)) ∈ pm_tbl := pm_mem 544 (by decide +kernel) rfl
theorem kw_552 : (Jvm.Cond.code ({ cls := "StandUpBook", name := "tears", desc := "(I)I" } : Jvm.MethodName) prog_1_method_9_code (2 : Nat) (Option.some Jvm.ClassFile.FieldType.int)) ∈ pm_tbl := pm_mem 552 (by decide +kernel) rfl
theorem kw_569 : (Jvm.Cond.code ({ cls := "StandUpBook", name := "undo", desc := "()I" } : Jvm.MethodName) prog_1_method_10_code (1 : Nat) (Option.some Jvm.ClassFile.FieldType.int)) ∈ pm_tbl := pm_mem 569 (by decide +kernel) rfl
theorem kw_577 : (Jvm.Cond.code ({ cls := "StandUpBook", name := "of", desc := "(II)I" } : Jvm.MethodName) prog_1_method_11_code (4 : Nat) (Option.some Jvm.ClassFile.FieldType.int)) ∈ pm_tbl := pm_mem 577 (by decide +kernel) rfl
theorem kw_582 : (Jvm.Cond.code ({ cls := "StandUpBook", name := "gives", desc := "(III)I" } : Jvm.MethodName) prog_1_method_12_code (4 : Nat) (Option.some Jvm.ClassFile.FieldType.int)) ∈ pm_tbl := pm_mem 582 (by decide +kernel) rfl
theorem kw_613 : (Jvm.Cond.code ({ cls := "StandUpBook", name := "height", desc := "(II)I" } : Jvm.MethodName) prog_1_method_13_code (3 : Nat) (Option.some Jvm.ClassFile.FieldType.int)) ∈ pm_tbl := pm_mem 613 (by decide +kernel) rfl
theorem kw_618 : (Jvm.Cond.code ({ cls := "StandUpBook", name := "seen", desc := "(I)I" } : Jvm.MethodName) prog_1_method_14_code (2 : Nat) (Option.some Jvm.ClassFile.FieldType.int)) ∈ pm_tbl := pm_mem 618 (by decide +kernel) rfl
theorem kw_622 : (Jvm.Cond.code ({ cls := "StandUpBook", name := "first", desc := "(I)I" } : Jvm.MethodName) prog_1_method_15_code (4 : Nat) (Option.some Jvm.ClassFile.FieldType.int)) ∈ pm_tbl := pm_mem 622 (by decide +kernel) rfl
theorem kw_631 : (Jvm.Cond.code ({ cls := "StandUpBook", name := "best", desc := "(I)I" } : Jvm.MethodName) prog_1_method_16_code (6 : Nat) (Option.some Jvm.ClassFile.FieldType.int)) ∈ pm_tbl := pm_mem 631 (by decide +kernel) rfl
theorem kw_640 : (Jvm.Cond.code ({ cls := "StandUpBook", name := "out", desc := "(I)I" } : Jvm.MethodName) prog_1_method_17_code (2 : Nat) (Option.some Jvm.ClassFile.FieldType.int)) ∈ pm_tbl := pm_mem 640 (by decide +kernel) rfl
theorem kw_660 : (Jvm.Cond.code ({ cls := "StandUpBook", name := "tour", desc := "(II)I" } : Jvm.MethodName) prog_1_method_18_code (5 : Nat) (Option.some Jvm.ClassFile.FieldType.int)) ∈ pm_tbl := pm_mem 660 (by decide +kernel) rfl
theorem kw_688 : (Jvm.Cond.code ({ cls := "StandUpBook", name := "place", desc := "(III)I" } : Jvm.MethodName) prog_1_method_19_code (8 : Nat) (Option.some Jvm.ClassFile.FieldType.int)) ∈ pm_tbl := pm_mem 688 (by decide +kernel) rfl
theorem kw_692 : (Jvm.Cond.code ({ cls := "StandUpBook", name := "lasts", desc := "()I" } : Jvm.MethodName) prog_1_method_20_code (2 : Nat) (Option.some Jvm.ClassFile.FieldType.int)) ∈ pm_tbl := pm_mem 692 (by decide +kernel) rfl
theorem kw_700 : (Jvm.Cond.code ({ cls := "StandUpBook", name := "turns", desc := "(II)I" } : Jvm.MethodName) prog_1_method_21_code (6 : Nat) (Option.some Jvm.ClassFile.FieldType.int)) ∈ pm_tbl := pm_mem 700 (by decide +kernel) rfl
theorem kw_709 : (Jvm.Cond.code ({ cls := "StandUpBook", name := "note", desc := "(IIIII)I" } : Jvm.MethodName) prog_1_method_22_code (7 : Nat) (Option.some Jvm.ClassFile.FieldType.int)) ∈ pm_tbl := pm_mem 709 (by decide +kernel) rfl
theorem kw_713 : (Jvm.Cond.code ({ cls := "StandUpBook", name := "stood", desc := "(II)I" } : Jvm.MethodName) prog_1_method_23_code (4 : Nat) (Option.some Jvm.ClassFile.FieldType.int)) ∈ pm_tbl := pm_mem 713 (by decide +kernel) rfl
theorem kw_717 : (Jvm.Cond.code ({ cls := "StandUpBook", name := "forget", desc := "(I)I" } : Jvm.MethodName) prog_1_method_24_code (3 : Nat) (Option.some Jvm.ClassFile.FieldType.int)) ∈ pm_tbl := pm_mem 717 (by decide +kernel) rfl
theorem kw_721 : (Jvm.Cond.code ({ cls := "StandUpBook", name := "is", desc := "(I)I" } : Jvm.MethodName) prog_1_method_25_code (2 : Nat) (Option.some Jvm.ClassFile.FieldType.int)) ∈ pm_tbl := pm_mem 721 (by decide +kernel) rfl
theorem kw_734 : (Jvm.Cond.code ({ cls := "StandUpBook", name := "look", desc := "(I)I" } : Jvm.MethodName) prog_1_method_26_code (9 : Nat) (Option.some Jvm.ClassFile.FieldType.int)) ∈ pm_tbl := pm_mem 734 (by decide +kernel) rfl
theorem kw_746 : (Jvm.Cond.code ({ cls := "StandUpBook", name := "where", desc := "(II)I" } : Jvm.MethodName) prog_1_method_27_code (7 : Nat) (Option.some Jvm.ClassFile.FieldType.int)) ∈ pm_tbl := pm_mem 746 (by decide +kernel) rfl
theorem kw_754 : (Jvm.Cond.code ({ cls := "StandUpBook", name := "seats", desc := "(I)I" } : Jvm.MethodName) prog_1_method_28_code (4 : Nat) (Option.some Jvm.ClassFile.FieldType.int)) ∈ pm_tbl := pm_mem 754 (by decide +kernel) rfl
theorem kw_774 : (Jvm.Cond.code ({ cls := "StandUpBook", name := "sticks", desc := "(II)I" } : Jvm.MethodName) prog_1_method_29_code (11 : Nat) (Option.some Jvm.ClassFile.FieldType.int)) ∈ pm_tbl := pm_mem 774 (by decide +kernel) rfl
theorem kw_793 : (Jvm.Cond.code ({ cls := "StandUpBook", name := "readers", desc := "(II)I" } : Jvm.MethodName) prog_1_method_30_code (8 : Nat) (Option.some Jvm.ClassFile.FieldType.int)) ∈ pm_tbl := pm_mem 793 (by decide +kernel) rfl
theorem kw_803 : (Jvm.Cond.code ({ cls := "StandUpBook", name := "part", desc := "(I)J" } : Jvm.MethodName) prog_1_method_31_code (2 : Nat) (Option.some Jvm.ClassFile.FieldType.long)) ∈ pm_tbl := pm_mem 803 (by decide +kernel) rfl
theorem kw_807 : (Jvm.Cond.code ({ cls := "StandUpBook", name := "image", desc := "(I)I" } : Jvm.MethodName) prog_1_method_32_code (2 : Nat) (Option.some Jvm.ClassFile.FieldType.int)) ∈ pm_tbl := pm_mem 807 (by decide +kernel) rfl
theorem kw_818 : (Jvm.Cond.code ({ cls := "StandUpBook", name := "from", desc := "(I)I" } : Jvm.MethodName) prog_1_method_33_code (2 : Nat) (Option.some Jvm.ClassFile.FieldType.int)) ∈ pm_tbl := pm_mem 818 (by decide +kernel) rfl
theorem kw_822 : (Jvm.Cond.code ({ cls := "StandUpBook", name := "status", desc := "(I)I" } : Jvm.MethodName) prog_1_method_34_code (2 : Nat) (Option.some Jvm.ClassFile.FieldType.int)) ∈ pm_tbl := pm_mem 822 (by decide +kernel) rfl
theorem kw_826 : (Jvm.Cond.code ({ cls := "StandUpBook", name := "count", desc := "(I)I" } : Jvm.MethodName) prog_1_method_35_code (3 : Nat) (Option.some Jvm.ClassFile.FieldType.int)) ∈ pm_tbl := pm_mem 826 (by decide +kernel) rfl
theorem kw_834 : (Jvm.Cond.code ({ cls := "StandUpBook", name := "digest", desc := "()J" } : Jvm.MethodName) prog_1_method_36_code (4 : Nat) (Option.some Jvm.ClassFile.FieldType.long)) ∈ pm_tbl := pm_mem 834 (by decide +kernel) rfl
theorem kw_291 : (Jvm.Cond.code ({ cls := "StandUpBook", name := "refuseBad", desc := "()I" } : Jvm.MethodName) prog_1_method_37_code (1 : Nat) (Option.some Jvm.ClassFile.FieldType.int)) ∈ pm_tbl := pm_mem 291 (by decide +kernel) rfl
theorem kw_668 : (Jvm.Cond.code ({ cls := "StandUpBook", name := "refuseBadElsewhere", desc := "()I" } : Jvm.MethodName) prog_1_method_38_code (1 : Nat) (Option.some Jvm.ClassFile.FieldType.int)) ∈ pm_tbl := pm_mem 668 (by decide +kernel) rfl
theorem kw_490 : (Jvm.Cond.code ({ cls := "StandUpBook", name := "refuseNo", desc := "()I" } : Jvm.MethodName) prog_1_method_39_code (1 : Nat) (Option.some Jvm.ClassFile.FieldType.int)) ∈ pm_tbl := pm_mem 490 (by decide +kernel) rfl
theorem kw_311 : (Jvm.Cond.code ({ cls := "StandUpBook", name := "refuseFull", desc := "()I" } : Jvm.MethodName) prog_1_method_40_code (1 : Nat) (Option.some Jvm.ClassFile.FieldType.int)) ∈ pm_tbl := pm_mem 311 (by decide +kernel) rfl
theorem kw_548 : (Jvm.Cond.code ({ cls := "StandUpBook", name := "isNoPiece", desc := "(I)Z" } : Jvm.MethodName) prog_1_method_41_code (2 : Nat) (Option.some Jvm.ClassFile.FieldType.boolean)) ∈ pm_tbl := pm_mem 548 (by decide +kernel) rfl
theorem kw_664 : (Jvm.Cond.code ({ cls := "StandUpBook", name := "areNoPieces", desc := "(I)Z" } : Jvm.MethodName) prog_1_method_42_code (2 : Nat) (Option.some Jvm.ClassFile.FieldType.boolean)) ∈ pm_tbl := pm_mem 664 (by decide +kernel) rfl
theorem kw_486 : (Jvm.Cond.code ({ cls := "StandUpBook", name := "isNoOpening", desc := "(I)Z" } : Jvm.MethodName) prog_1_method_43_code (1 : Nat) (Option.some Jvm.ClassFile.FieldType.boolean)) ∈ pm_tbl := pm_mem 486 (by decide +kernel) rfl
theorem kw_287 : (Jvm.Cond.code ({ cls := "StandUpBook", name := "outside", desc := "(III)Z" } : Jvm.MethodName) prog_1_method_44_code (3 : Nat) (Option.some Jvm.ClassFile.FieldType.boolean)) ∈ pm_tbl := pm_mem 287 (by decide +kernel) rfl
theorem kw_511 : (Jvm.Cond.code ({ cls := "StandUpBook", name := "has", desc := "(II)Z" } : Jvm.MethodName) prog_1_method_45_code (2 : Nat) (Option.some Jvm.ClassFile.FieldType.boolean)) ∈ pm_tbl := pm_mem 511 (by decide +kernel) rfl
theorem kw_626 : (Jvm.Cond.code ({ cls := "StandUpBook", name := "openingsThatShow", desc := "(I)I" } : Jvm.MethodName) prog_1_method_46_code (4 : Nat) (Option.some Jvm.ClassFile.FieldType.int)) ∈ pm_tbl := pm_mem 626 (by decide +kernel) rfl
theorem kw_703 : (Jvm.Cond.code ({ cls := "StandUpBook", name := "winningStep", desc := "(IIII)I" } : Jvm.MethodName) prog_1_method_47_code (6 : Nat) (Option.some Jvm.ClassFile.FieldType.int)) ∈ pm_tbl := pm_mem 703 (by decide +kernel) rfl
theorem kw_725 : (Jvm.Cond.code ({ cls := "StandUpBook", name := "kindsThatFit", desc := "(I)I" } : Jvm.MethodName) prog_1_method_48_code (4 : Nat) (Option.some Jvm.ClassFile.FieldType.int)) ∈ pm_tbl := pm_mem 725 (by decide +kernel) rfl
theorem kw_729 : (Jvm.Cond.code ({ cls := "StandUpBook", name := "fitsNotes", desc := "(II)Z" } : Jvm.MethodName) prog_1_method_49_code (5 : Nat) (Option.some Jvm.ClassFile.FieldType.boolean)) ∈ pm_tbl := pm_mem 729 (by decide +kernel) rfl
theorem kw_738 : (Jvm.Cond.code ({ cls := "StandUpBook", name := "mostAlike", desc := "(IIII)I" } : Jvm.MethodName) prog_1_method_50_code (8 : Nat) (Option.some Jvm.ClassFile.FieldType.int)) ∈ pm_tbl := pm_mem 738 (by decide +kernel) rfl
theorem kw_742 : (Jvm.Cond.code ({ cls := "StandUpBook", name := "manyThatRise", desc := "(IIIII)I" } : Jvm.MethodName) prog_1_method_51_code (8 : Nat) (Option.some Jvm.ClassFile.FieldType.int)) ∈ pm_tbl := pm_mem 742 (by decide +kernel) rfl
theorem kw_750 : (Jvm.Cond.code ({ cls := "StandUpBook", name := "trialStandsSo", desc := "()Z" } : Jvm.MethodName) prog_1_method_52_code (3 : Nat) (Option.some Jvm.ClassFile.FieldType.boolean)) ∈ pm_tbl := pm_mem 750 (by decide +kernel) rfl
theorem kw_762 : (Jvm.Cond.code ({ cls := "StandUpBook", name := "rests", desc := "(II)Z" } : Jvm.MethodName) prog_1_method_53_code (4 : Nat) (Option.some Jvm.ClassFile.FieldType.boolean)) ∈ pm_tbl := pm_mem 762 (by decide +kernel) rfl
theorem kw_766 : (Jvm.Cond.code ({ cls := "StandUpBook", name := "firstGets", desc := "(II)I" } : Jvm.MethodName) prog_1_method_54_code (3 : Nat) (Option.some Jvm.ClassFile.FieldType.int)) ∈ pm_tbl := pm_mem 766 (by decide +kernel) rfl
theorem kw_770 : (Jvm.Cond.code ({ cls := "StandUpBook", name := "secondGets", desc := "(II)I" } : Jvm.MethodName) prog_1_method_55_code (3 : Nat) (Option.some Jvm.ClassFile.FieldType.int)) ∈ pm_tbl := pm_mem 770 (by decide +kernel) rfl
theorem kw_782 : (Jvm.Cond.code ({ cls := "StandUpBook", name := "power", desc := "(II)J" } : Jvm.MethodName) prog_1_method_56_code (5 : Nat) (Option.some Jvm.ClassFile.FieldType.long)) ∈ pm_tbl := pm_mem 782 (by decide +kernel) rfl
theorem kw_786 : (Jvm.Cond.code ({ cls := "StandUpBook", name := "keepFraction", desc := "(JJ)V" } : Jvm.MethodName) prog_1_method_57_code (7 : Nat) (Option.none : Option Jvm.ClassFile.FieldType)) ∈ pm_tbl := pm_mem 786 (by decide +kernel) rfl
theorem kw_789 : (Jvm.Cond.code ({ cls := "StandUpBook", name := "commonDivisor", desc := "(JJ)J" } : Jvm.MethodName) prog_1_method_58_code (11 : Nat) (Option.some Jvm.ClassFile.FieldType.long)) ∈ pm_tbl := pm_mem 789 (by decide +kernel) rfl
theorem kw_839 : (Jvm.Cond.code ({ cls := "StandUpBook", name := "mixed", desc := "(JJ)J" } : Jvm.MethodName) prog_1_method_59_code (4 : Nat) (Option.some Jvm.ClassFile.FieldType.long)) ∈ pm_tbl := pm_mem 839 (by decide +kernel) rfl
theorem kw_852 : (Jvm.Cond.code ({ cls := "StandUpBook", name := "mixedRows", desc := "(J[[II)J" } : Jvm.MethodName) prog_1_method_60_code (11 : Nat) (Option.some Jvm.ClassFile.FieldType.long)) ∈ pm_tbl := pm_mem 852 (by decide +kernel) rfl
theorem kw_994 : (Jvm.Cond.code ({ cls := "StandUpBookModel", name := "bad", desc := "()I" } : Jvm.MethodName) prog_14_method_1_code (1 : Nat) (Option.some Jvm.ClassFile.FieldType.int)) ∈ pm_tbl := pm_mem 994 (by decide +kernel) rfl
theorem kw_1209 : (Jvm.Cond.code ({ cls := "StandUpBookModel", name := "ten", desc := "()I" } : Jvm.MethodName) prog_14_method_2_code (1 : Nat) (Option.some Jvm.ClassFile.FieldType.int)) ∈ pm_tbl := pm_mem 1209 (by decide +kernel) rfl
theorem kw_1117 : (Jvm.Cond.code ({ cls := "StandUpBookModel", name := "no", desc := "()I" } : Jvm.MethodName) prog_14_method_3_code (1 : Nat) (Option.some Jvm.ClassFile.FieldType.int)) ∈ pm_tbl := pm_mem 1117 (by decide +kernel) rfl
theorem kw_1002 : (Jvm.Cond.code ({ cls := "StandUpBookModel", name := "full", desc := "()I" } : Jvm.MethodName) prog_14_method_4_code (1 : Nat) (Option.some Jvm.ClassFile.FieldType.int)) ∈ pm_tbl := pm_mem 1002 (by decide +kernel) rfl
theorem kw_990 : (Jvm.Cond.code ({ cls := "StandUpBookModel", name := "in", desc := "(III)Z" } : Jvm.MethodName) prog_14_method_5_code (3 : Nat) (Option.some Jvm.ClassFile.FieldType.boolean)) ∈ pm_tbl := pm_mem 990 (by decide +kernel) rfl
theorem kw_1136 : (Jvm.Cond.code ({ cls := "StandUpBookModel", name := "has", desc := "(II)Z" } : Jvm.MethodName) prog_14_method_6_code (2 : Nat) (Option.some Jvm.ClassFile.FieldType.boolean)) ∈ pm_tbl := pm_mem 1136 (by decide +kernel) rfl
theorem kw_1090 : (Jvm.Cond.code ({ cls := "StandUpBookModel", name := "lesser", desc := "(II)I" } : Jvm.MethodName) prog_14_method_7_code (2 : Nat) (Option.some Jvm.ClassFile.FieldType.int)) ∈ pm_tbl := pm_mem 1090 (by decide +kernel) rfl
theorem kw_1189 : (Jvm.Cond.code ({ cls := "StandUpBookModel", name := "greater", desc := "(II)I" } : Jvm.MethodName) prog_14_method_8_code (2 : Nat) (Option.some Jvm.ClassFile.FieldType.int)) ∈ pm_tbl := pm_mem 1189 (by decide +kernel) rfl
theorem kw_1186 : (Jvm.Cond.code ({ cls := "StandUpBookModel", name := "bits", desc := "(I)I" } : Jvm.MethodName) prog_14_method_9_code (3 : Nat) (Option.some Jvm.ClassFile.FieldType.int)) ∈ pm_tbl := pm_mem 1186 (by decide +kernel) rfl
theorem kw_857 : (Jvm.Cond.code ({ cls := "StandUpBookModel", name := "<init>", desc := "()V" } : Jvm.MethodName) prog_14_method_10_code (1 : Nat) (Option.none : Option Jvm.ClassFile.FieldType)) ∈ pm_tbl := pm_mem 857 (by decide +kernel) rfl
theorem kw_862 : (Jvm.Cond.code ({ cls := "StandUpBookModel", name := "begin", desc := "(I)V" } : Jvm.MethodName) prog_14_method_11_code (2 : Nat) (Option.none : Option Jvm.ClassFile.FieldType)) ∈ pm_tbl := pm_mem 862 (by decide +kernel) rfl
theorem kw_1147 : (Jvm.Cond.code ({ cls := "StandUpBookModel", name := "isPiece", desc := "(I)Z" } : Jvm.MethodName) prog_14_method_12_code (2 : Nat) (Option.some Jvm.ClassFile.FieldType.boolean)) ∈ pm_tbl := pm_mem 1147 (by decide +kernel) rfl
theorem kw_1113 : (Jvm.Cond.code ({ cls := "StandUpBookModel", name := "isOpening", desc := "(I)Z" } : Jvm.MethodName) prog_14_method_13_code (1 : Nat) (Option.some Jvm.ClassFile.FieldType.boolean)) ∈ pm_tbl := pm_mem 1113 (by decide +kernel) rfl
theorem kw_1205 : (Jvm.Cond.code ({ cls := "StandUpBookModel", name := "isSet", desc := "(I)Z" } : Jvm.MethodName) prog_14_method_14_code (2 : Nat) (Option.some Jvm.ClassFile.FieldType.boolean)) ∈ pm_tbl := pm_mem 1205 (by decide +kernel) rfl
theorem kw_987 : (Jvm.Cond.code ({ cls := "StandUpBookModel", name := "book", desc := "(I)I" } : Jvm.MethodName) prog_14_method_15_code (3 : Nat) (Option.some Jvm.ClassFile.FieldType.int)) ∈ pm_tbl := pm_mem 987 (by decide +kernel) rfl
theorem kw_1006 : (Jvm.Cond.code ({ cls := "StandUpBookModel", name := "addPiece", desc := "(IIIII)I" } : Jvm.MethodName) prog_14_method_16_code (6 : Nat) (Option.some Jvm.ClassFile.FieldType.int)) ∈ pm_tbl := pm_mem 1006 (by decide +kernel) rfl
theorem kw_998 : (Jvm.Cond.code ({ cls := "StandUpBookModel", name := "piece", desc := "(IIIII)I" } : Jvm.MethodName) prog_14_method_17_code (6 : Nat) (Option.some Jvm.ClassFile.FieldType.int)) ∈ pm_tbl := pm_mem 998 (by decide +kernel) rfl
theorem kw_1010 : (Jvm.Cond.code ({ cls := "StandUpBookModel", name := "type", desc := "(I)I" } : Jvm.MethodName) prog_14_method_18_code (2 : Nat) (Option.some Jvm.ClassFile.FieldType.int)) ∈ pm_tbl := pm_mem 1010 (by decide +kernel) rfl
theorem kw_1014 : (Jvm.Cond.code ({ cls := "StandUpBookModel", name := "clear", desc := "()I" } : Jvm.MethodName) prog_14_method_19_code (2 : Nat) (Option.some Jvm.ClassFile.FieldType.int)) ∈ pm_tbl := pm_mem 1014 (by decide +kernel) rfl
theorem kw_1042 : (Jvm.Cond.code ({ cls := "StandUpBookModel", name := "here", desc := "()I" } : Jvm.MethodName) prog_14_method_20_code (1 : Nat) (Option.some Jvm.ClassFile.FieldType.int)) ∈ pm_tbl := pm_mem 1042 (by decide +kernel) rfl
theorem kw_1038 : (Jvm.Cond.code ({ cls := "StandUpBookModel", name := "skip", desc := "()V" } : Jvm.MethodName) prog_14_method_21_code (1 : Nat) (Option.none : Option Jvm.ClassFile.FieldType)) ∈ pm_tbl := pm_mem 1038 (by decide +kernel) rfl
theorem kw_1053 : (Jvm.Cond.code ({ cls := "StandUpBookModel", name := "isLetter", desc := "(I)Z" } : Jvm.MethodName) prog_14_method_22_code (1 : Nat) (Option.some Jvm.ClassFile.FieldType.boolean)) ∈ pm_tbl := pm_mem 1053 (by decide +kernel) rfl
theorem kw_1064 : (Jvm.Cond.code ({ cls := "StandUpBookModel", name := "isFigure", desc := "(I)Z" } : Jvm.MethodName) prog_14_method_23_code (1 : Nat) (Option.some Jvm.ClassFile.FieldType.boolean)) ∈ pm_tbl := pm_mem 1064 (by decide +kernel) rfl
theorem kw_1050 : (Jvm.Cond.code ({ cls := "StandUpBookModel", name := "wordSize", desc := "()I" } : Jvm.MethodName) prog_14_method_24_code (2 : Nat) (Option.some Jvm.ClassFile.FieldType.int)) ∈ pm_tbl := pm_mem 1050 (by decide +kernel) rfl
theorem kw_1057 : (Jvm.Cond.code ({ cls := "StandUpBookModel", name := "letter", desc := "(I)I" } : Jvm.MethodName) prog_14_method_25_code (2 : Nat) (Option.some Jvm.ClassFile.FieldType.int)) ∈ pm_tbl := pm_mem 1057 (by decide +kernel) rfl
theorem kw_1046 : (Jvm.Cond.code ({ cls := "StandUpBookModel", name := "wordHere", desc := "()I" } : Jvm.MethodName) prog_14_method_26_code (2 : Nat) (Option.some Jvm.ClassFile.FieldType.int)) ∈ pm_tbl := pm_mem 1046 (by decide +kernel) rfl
theorem kw_1061 : (Jvm.Cond.code ({ cls := "StandUpBookModel", name := "number", desc := "(II)Z" } : Jvm.MethodName) prog_14_method_27_code (5 : Nat) (Option.some Jvm.ClassFile.FieldType.boolean)) ∈ pm_tbl := pm_mem 1061 (by decide +kernel) rfl
theorem kw_1068 : (Jvm.Cond.code ({ cls := "StandUpBookModel", name := "ends", desc := "()Z" } : Jvm.MethodName) prog_14_method_28_code (1 : Nat) (Option.some Jvm.ClassFile.FieldType.boolean)) ∈ pm_tbl := pm_mem 1068 (by decide +kernel) rfl
theorem kw_1098 : (Jvm.Cond.code ({ cls := "StandUpBookModel", name := "readsPiece", desc := "(Z)Z" } : Jvm.MethodName) prog_14_method_29_code (5 : Nat) (Option.some Jvm.ClassFile.FieldType.boolean)) ∈ pm_tbl := pm_mem 1098 (by decide +kernel) rfl
theorem kw_1076 : (Jvm.Cond.code ({ cls := "StandUpBookModel", name := "readsOpen", desc := "()Z" } : Jvm.MethodName) prog_14_method_30_code (1 : Nat) (Option.some Jvm.ClassFile.FieldType.boolean)) ∈ pm_tbl := pm_mem 1076 (by decide +kernel) rfl
theorem kw_1094 : (Jvm.Cond.code ({ cls := "StandUpBookModel", name := "readsPull", desc := "()Z" } : Jvm.MethodName) prog_14_method_31_code (2 : Nat) (Option.some Jvm.ClassFile.FieldType.boolean)) ∈ pm_tbl := pm_mem 1094 (by decide +kernel) rfl
theorem kw_1072 : (Jvm.Cond.code ({ cls := "StandUpBookModel", name := "readsItem", desc := "()Z" } : Jvm.MethodName) prog_14_method_32_code (2 : Nat) (Option.some Jvm.ClassFile.FieldType.boolean)) ∈ pm_tbl := pm_mem 1072 (by decide +kernel) rfl
theorem kw_1034 : (Jvm.Cond.code ({ cls := "StandUpBookModel", name := "readsFirst", desc := "()Z" } : Jvm.MethodName) prog_14_method_33_code (1 : Nat) (Option.some Jvm.ClassFile.FieldType.boolean)) ∈ pm_tbl := pm_mem 1034 (by decide +kernel) rfl
theorem kw_1030 : (Jvm.Cond.code ({ cls := "StandUpBookModel", name := "readsBook", desc := "()I" } : Jvm.MethodName) prog_14_method_34_code (2 : Nat) (Option.some Jvm.ClassFile.FieldType.int)) ∈ pm_tbl := pm_mem 1030 (by decide +kernel) rfl
theorem kw_1018 : (Jvm.Cond.code ({ cls := "StandUpBookModel", name := "read", desc := "()I" } : Jvm.MethodName) prog_14_method_35_code (2 : Nat) (Option.some Jvm.ClassFile.FieldType.int)) ∈ pm_tbl := pm_mem 1018 (by decide +kernel) rfl
theorem kw_1139 : (Jvm.Cond.code ({ cls := "StandUpBookModel", name := "risesBy", desc := "(IIII)I" } : Jvm.MethodName) prog_14_method_36_code (7 : Nat) (Option.some Jvm.ClassFile.FieldType.int)) ∈ pm_tbl := pm_mem 1139 (by decide +kernel) rfl
theorem kw_1167 : (Jvm.Cond.code ({ cls := "StandUpBookModel", name := "reach", desc := "(I)I" } : Jvm.MethodName) prog_14_method_37_code (2 : Nat) (Option.some Jvm.ClassFile.FieldType.int)) ∈ pm_tbl := pm_mem 1167 (by decide +kernel) rfl
theorem kw_1087 : (Jvm.Cond.code ({ cls := "StandUpBookModel", name := "bearsBy", desc := "(I)I" } : Jvm.MethodName) prog_14_method_38_code (1 : Nat) (Option.some Jvm.ClassFile.FieldType.int)) ∈ pm_tbl := pm_mem 1087 (by decide +kernel) rfl
theorem kw_1084 : (Jvm.Cond.code ({ cls := "StandUpBookModel", name := "isStuck", desc := "(I)Z" } : Jvm.MethodName) prog_14_method_39_code (2 : Nat) (Option.some Jvm.ClassFile.FieldType.boolean)) ∈ pm_tbl := pm_mem 1084 (by decide +kernel) rfl
theorem kw_1133 : (Jvm.Cond.code ({ cls := "StandUpBookModel", name := "riseOf", desc := "(II)I" } : Jvm.MethodName) prog_14_method_40_code (3 : Nat) (Option.some Jvm.ClassFile.FieldType.int)) ∈ pm_tbl := pm_mem 1133 (by decide +kernel) rfl
theorem kw_1129 : (Jvm.Cond.code ({ cls := "StandUpBookModel", name := "heightOf", desc := "(II)I" } : Jvm.MethodName) prog_14_method_41_code (5 : Nat) (Option.some Jvm.ClassFile.FieldType.int)) ∈ pm_tbl := pm_mem 1129 (by decide +kernel) rfl
theorem kw_1125 : (Jvm.Cond.code ({ cls := "StandUpBookModel", name := "seenAt", desc := "(I)I" } : Jvm.MethodName) prog_14_method_42_code (6 : Nat) (Option.some Jvm.ClassFile.FieldType.int)) ∈ pm_tbl := pm_mem 1125 (by decide +kernel) rfl
theorem kw_1026 : (Jvm.Cond.code ({ cls := "StandUpBookModel", name := "lays", desc := "([II)V" } : Jvm.MethodName) prog_14_method_43_code (4 : Nat) (Option.none : Option Jvm.ClassFile.FieldType)) ∈ pm_tbl := pm_mem 1026 (by decide +kernel) rfl
theorem kw_1106 : (Jvm.Cond.code ({ cls := "StandUpBookModel", name := "takes", desc := "([II)V" } : Jvm.MethodName) prog_14_method_44_code (4 : Nat) (Option.none : Option Jvm.ClassFile.FieldType)) ∈ pm_tbl := pm_mem 1106 (by decide +kernel) rfl
theorem kw_1121 : (Jvm.Cond.code ({ cls := "StandUpBookModel", name := "notes", desc := "()V" } : Jvm.MethodName) prog_14_method_45_code (2 : Nat) (Option.none : Option Jvm.ClassFile.FieldType)) ∈ pm_tbl := pm_mem 1121 (by decide +kernel) rfl
theorem kw_1080 : (Jvm.Cond.code ({ cls := "StandUpBookModel", name := "goesTo", desc := "(I)V" } : Jvm.MethodName) prog_14_method_46_code (4 : Nat) (Option.none : Option Jvm.ClassFile.FieldType)) ∈ pm_tbl := pm_mem 1080 (by decide +kernel) rfl
theorem kw_1110 : (Jvm.Cond.code ({ cls := "StandUpBookModel", name := "opens", desc := "(I)I" } : Jvm.MethodName) prog_14_method_47_code (2 : Nat) (Option.some Jvm.ClassFile.FieldType.int)) ∈ pm_tbl := pm_mem 1110 (by decide +kernel) rfl
theorem kw_1143 : (Jvm.Cond.code ({ cls := "StandUpBookModel", name := "pulls", desc := "(II)I" } : Jvm.MethodName) prog_14_method_48_code (4 : Nat) (Option.some Jvm.ClassFile.FieldType.int)) ∈ pm_tbl := pm_mem 1143 (by decide +kernel) rfl
theorem kw_1151 : (Jvm.Cond.code ({ cls := "StandUpBookModel", name := "tears", desc := "(I)I" } : Jvm.MethodName) prog_14_method_49_code (5 : Nat) (Option.some Jvm.ClassFile.FieldType.int)) ∈ pm_tbl := pm_mem 1151 (by decide +kernel) rfl
theorem kw_1155 : (Jvm.Cond.code ({ cls := "StandUpBookModel", name := "undo", desc := "()I" } : Jvm.MethodName) prog_14_method_50_code (1 : Nat) (Option.some Jvm.ClassFile.FieldType.int)) ∈ pm_tbl := pm_mem 1155 (by decide +kernel) rfl
theorem kw_1159 : (Jvm.Cond.code ({ cls := "StandUpBookModel", name := "of", desc := "(II)I" } : Jvm.MethodName) prog_14_method_51_code (3 : Nat) (Option.some Jvm.ClassFile.FieldType.int)) ∈ pm_tbl := pm_mem 1159 (by decide +kernel) rfl
theorem kw_1163 : (Jvm.Cond.code ({ cls := "StandUpBookModel", name := "gives", desc := "(III)I" } : Jvm.MethodName) prog_14_method_52_code (4 : Nat) (Option.some Jvm.ClassFile.FieldType.int)) ∈ pm_tbl := pm_mem 1163 (by decide +kernel) rfl
theorem kw_1171 : (Jvm.Cond.code ({ cls := "StandUpBookModel", name := "height", desc := "(II)I" } : Jvm.MethodName) prog_14_method_53_code (3 : Nat) (Option.some Jvm.ClassFile.FieldType.int)) ∈ pm_tbl := pm_mem 1171 (by decide +kernel) rfl
theorem kw_1175 : (Jvm.Cond.code ({ cls := "StandUpBookModel", name := "seen", desc := "(I)I" } : Jvm.MethodName) prog_14_method_54_code (2 : Nat) (Option.some Jvm.ClassFile.FieldType.int)) ∈ pm_tbl := pm_mem 1175 (by decide +kernel) rfl
theorem kw_1179 : (Jvm.Cond.code ({ cls := "StandUpBookModel", name := "first", desc := "(I)I" } : Jvm.MethodName) prog_14_method_55_code (3 : Nat) (Option.some Jvm.ClassFile.FieldType.int)) ∈ pm_tbl := pm_mem 1179 (by decide +kernel) rfl
theorem kw_1183 : (Jvm.Cond.code ({ cls := "StandUpBookModel", name := "best", desc := "(I)I" } : Jvm.MethodName) prog_14_method_56_code (6 : Nat) (Option.some Jvm.ClassFile.FieldType.int)) ∈ pm_tbl := pm_mem 1183 (by decide +kernel) rfl
theorem kw_1197 : (Jvm.Cond.code ({ cls := "StandUpBookModel", name := "reachAll", desc := "(I)I" } : Jvm.MethodName) prog_14_method_57_code (4 : Nat) (Option.some Jvm.ClassFile.FieldType.int)) ∈ pm_tbl := pm_mem 1197 (by decide +kernel) rfl
theorem kw_1193 : (Jvm.Cond.code ({ cls := "StandUpBookModel", name := "out", desc := "(I)I" } : Jvm.MethodName) prog_14_method_58_code (5 : Nat) (Option.some Jvm.ClassFile.FieldType.int)) ∈ pm_tbl := pm_mem 1193 (by decide +kernel) rfl
theorem kw_1213 : (Jvm.Cond.code ({ cls := "StandUpBookModel", name := "setSeen", desc := "()V" } : Jvm.MethodName) prog_14_method_59_code (2 : Nat) (Option.none : Option Jvm.ClassFile.FieldType)) ∈ pm_tbl := pm_mem 1213 (by decide +kernel) rfl
theorem kw_1218 : (Jvm.Cond.code ({ cls := "StandUpBookModel", name := "isToured", desc := "(III)Z" } : Jvm.MethodName) prog_14_method_60_code (6 : Nat) (Option.some Jvm.ClassFile.FieldType.boolean)) ∈ pm_tbl := pm_mem 1218 (by decide +kernel) rfl
theorem kw_1226 : (Jvm.Cond.code ({ cls := "StandUpBookModel", name := "walkTo", desc := "(I)V" } : Jvm.MethodName) prog_14_method_61_code (2 : Nat) (Option.none : Option Jvm.ClassFile.FieldType)) ∈ pm_tbl := pm_mem 1226 (by decide +kernel) rfl
theorem kw_1222 : (Jvm.Cond.code ({ cls := "StandUpBookModel", name := "setWalk", desc := "(II)V" } : Jvm.MethodName) prog_14_method_62_code (3 : Nat) (Option.none : Option Jvm.ClassFile.FieldType)) ∈ pm_tbl := pm_mem 1222 (by decide +kernel) rfl
theorem kw_1230 : (Jvm.Cond.code ({ cls := "StandUpBookModel", name := "isSooner", desc := "(I)Z" } : Jvm.MethodName) prog_14_method_63_code (3 : Nat) (Option.some Jvm.ClassFile.FieldType.boolean)) ∈ pm_tbl := pm_mem 1230 (by decide +kernel) rfl
theorem kw_1201 : (Jvm.Cond.code ({ cls := "StandUpBookModel", name := "tour", desc := "(II)I" } : Jvm.MethodName) prog_14_method_64_code (8 : Nat) (Option.some Jvm.ClassFile.FieldType.int)) ∈ pm_tbl := pm_mem 1201 (by decide +kernel) rfl
theorem kw_1234 : (Jvm.Cond.code ({ cls := "StandUpBookModel", name := "place", desc := "(III)I" } : Jvm.MethodName) prog_14_method_65_code (9 : Nat) (Option.some Jvm.ClassFile.FieldType.int)) ∈ pm_tbl := pm_mem 1234 (by decide +kernel) rfl
theorem kw_1242 : (Jvm.Cond.code ({ cls := "StandUpBookModel", name := "isWornBy", desc := "(I)Z" } : Jvm.MethodName) prog_14_method_66_code (4 : Nat) (Option.some Jvm.ClassFile.FieldType.boolean)) ∈ pm_tbl := pm_mem 1242 (by decide +kernel) rfl
theorem kw_1238 : (Jvm.Cond.code ({ cls := "StandUpBookModel", name := "lasts", desc := "()I" } : Jvm.MethodName) prog_14_method_67_code (2 : Nat) (Option.some Jvm.ClassFile.FieldType.int)) ∈ pm_tbl := pm_mem 1238 (by decide +kernel) rfl
theorem kw_1250 : (Jvm.Cond.code ({ cls := "StandUpBookModel", name := "goesFrom", desc := "(III)I" } : Jvm.MethodName) prog_14_method_68_code (8 : Nat) (Option.some Jvm.ClassFile.FieldType.int)) ∈ pm_tbl := pm_mem 1250 (by decide +kernel) rfl
theorem kw_1246 : (Jvm.Cond.code ({ cls := "StandUpBookModel", name := "turns", desc := "(II)I" } : Jvm.MethodName) prog_14_method_69_code (6 : Nat) (Option.some Jvm.ClassFile.FieldType.int)) ∈ pm_tbl := pm_mem 1246 (by decide +kernel) rfl
theorem kw_1254 : (Jvm.Cond.code ({ cls := "StandUpBookModel", name := "note", desc := "(IIIII)I" } : Jvm.MethodName) prog_14_method_70_code (7 : Nat) (Option.some Jvm.ClassFile.FieldType.int)) ∈ pm_tbl := pm_mem 1254 (by decide +kernel) rfl
theorem kw_1258 : (Jvm.Cond.code ({ cls := "StandUpBookModel", name := "stood", desc := "(II)I" } : Jvm.MethodName) prog_14_method_71_code (3 : Nat) (Option.some Jvm.ClassFile.FieldType.int)) ∈ pm_tbl := pm_mem 1258 (by decide +kernel) rfl
theorem kw_1262 : (Jvm.Cond.code ({ cls := "StandUpBookModel", name := "forget", desc := "(I)I" } : Jvm.MethodName) prog_14_method_72_code (3 : Nat) (Option.some Jvm.ClassFile.FieldType.int)) ∈ pm_tbl := pm_mem 1262 (by decide +kernel) rfl
theorem kw_1270 : (Jvm.Cond.code ({ cls := "StandUpBookModel", name := "kindsOf", desc := "(I)I" } : Jvm.MethodName) prog_14_method_73_code (7 : Nat) (Option.some Jvm.ClassFile.FieldType.int)) ∈ pm_tbl := pm_mem 1270 (by decide +kernel) rfl
theorem kw_1266 : (Jvm.Cond.code ({ cls := "StandUpBookModel", name := "is", desc := "(I)I" } : Jvm.MethodName) prog_14_method_74_code (2 : Nat) (Option.some Jvm.ClassFile.FieldType.int)) ∈ pm_tbl := pm_mem 1266 (by decide +kernel) rfl
theorem kw_1277 : (Jvm.Cond.code ({ cls := "StandUpBookModel", name := "alike", desc := "(IIII)I" } : Jvm.MethodName) prog_14_method_75_code (8 : Nat) (Option.some Jvm.ClassFile.FieldType.int)) ∈ pm_tbl := pm_mem 1277 (by decide +kernel) rfl
theorem kw_1274 : (Jvm.Cond.code ({ cls := "StandUpBookModel", name := "look", desc := "(I)I" } : Jvm.MethodName) prog_14_method_76_code (8 : Nat) (Option.some Jvm.ClassFile.FieldType.int)) ∈ pm_tbl := pm_mem 1274 (by decide +kernel) rfl
theorem kw_1285 : (Jvm.Cond.code ({ cls := "StandUpBookModel", name := "isStood", desc := "()Z" } : Jvm.MethodName) prog_14_method_77_code (3 : Nat) (Option.some Jvm.ClassFile.FieldType.boolean)) ∈ pm_tbl := pm_mem 1285 (by decide +kernel) rfl
theorem kw_1281 : (Jvm.Cond.code ({ cls := "StandUpBookModel", name := "where", desc := "(II)I" } : Jvm.MethodName) prog_14_method_78_code (7 : Nat) (Option.some Jvm.ClassFile.FieldType.int)) ∈ pm_tbl := pm_mem 1281 (by decide +kernel) rfl
theorem kw_1297 : (Jvm.Cond.code ({ cls := "StandUpBookModel", name := "firstGets", desc := "(II)I" } : Jvm.MethodName) prog_14_method_79_code (3 : Nat) (Option.some Jvm.ClassFile.FieldType.int)) ∈ pm_tbl := pm_mem 1297 (by decide +kernel) rfl
theorem kw_1301 : (Jvm.Cond.code ({ cls := "StandUpBookModel", name := "secondGets", desc := "(II)I" } : Jvm.MethodName) prog_14_method_80_code (3 : Nat) (Option.some Jvm.ClassFile.FieldType.int)) ∈ pm_tbl := pm_mem 1301 (by decide +kernel) rfl
theorem kw_1293 : (Jvm.Cond.code ({ cls := "StandUpBookModel", name := "rests", desc := "(II)Z" } : Jvm.MethodName) prog_14_method_81_code (5 : Nat) (Option.some Jvm.ClassFile.FieldType.boolean)) ∈ pm_tbl := pm_mem 1293 (by decide +kernel) rfl
theorem kw_1289 : (Jvm.Cond.code ({ cls := "StandUpBookModel", name := "seats", desc := "(I)I" } : Jvm.MethodName) prog_14_method_82_code (6 : Nat) (Option.some Jvm.ClassFile.FieldType.int)) ∈ pm_tbl := pm_mem 1289 (by decide +kernel) rfl
theorem kw_1310 : (Jvm.Cond.code ({ cls := "StandUpBookModel", name := "lay", desc := "(JJ)V" } : Jvm.MethodName) prog_14_method_83_code (11 : Nat) (Option.none : Option Jvm.ClassFile.FieldType)) ∈ pm_tbl := pm_mem 1310 (by decide +kernel) rfl
theorem kw_1305 : (Jvm.Cond.code ({ cls := "StandUpBookModel", name := "sticks", desc := "(II)I" } : Jvm.MethodName) prog_14_method_84_code (12 : Nat) (Option.some Jvm.ClassFile.FieldType.int)) ∈ pm_tbl := pm_mem 1305 (by decide +kernel) rfl
theorem kw_1314 : (Jvm.Cond.code ({ cls := "StandUpBookModel", name := "readers", desc := "(II)I" } : Jvm.MethodName) prog_14_method_85_code (7 : Nat) (Option.some Jvm.ClassFile.FieldType.int)) ∈ pm_tbl := pm_mem 1314 (by decide +kernel) rfl
theorem kw_1324 : (Jvm.Cond.code ({ cls := "StandUpBookModel", name := "part", desc := "(I)J" } : Jvm.MethodName) prog_14_method_86_code (2 : Nat) (Option.some Jvm.ClassFile.FieldType.long)) ∈ pm_tbl := pm_mem 1324 (by decide +kernel) rfl
theorem kw_1022 : (Jvm.Cond.code ({ cls := "StandUpBookModel", name := "layAll", desc := "([II)V" } : Jvm.MethodName) prog_14_method_87_code (4 : Nat) (Option.none : Option Jvm.ClassFile.FieldType)) ∈ pm_tbl := pm_mem 1022 (by decide +kernel) rfl
theorem kw_1102 : (Jvm.Cond.code ({ cls := "StandUpBookModel", name := "takeAll", desc := "([II)V" } : Jvm.MethodName) prog_14_method_88_code (4 : Nat) (Option.none : Option Jvm.ClassFile.FieldType)) ∈ pm_tbl := pm_mem 1102 (by decide +kernel) rfl
theorem kw_1328 : (Jvm.Cond.code ({ cls := "StandUpBookModel", name := "image", desc := "(I)I" } : Jvm.MethodName) prog_14_method_89_code (2 : Nat) (Option.some Jvm.ClassFile.FieldType.int)) ∈ pm_tbl := pm_mem 1328 (by decide +kernel) rfl
theorem kw_1332 : (Jvm.Cond.code ({ cls := "StandUpBookModel", name := "from", desc := "(I)I" } : Jvm.MethodName) prog_14_method_90_code (2 : Nat) (Option.some Jvm.ClassFile.FieldType.int)) ∈ pm_tbl := pm_mem 1332 (by decide +kernel) rfl
theorem kw_1336 : (Jvm.Cond.code ({ cls := "StandUpBookModel", name := "status", desc := "(I)I" } : Jvm.MethodName) prog_14_method_91_code (2 : Nat) (Option.some Jvm.ClassFile.FieldType.int)) ∈ pm_tbl := pm_mem 1336 (by decide +kernel) rfl
theorem kw_1352 : (Jvm.Cond.code ({ cls := "StandUpBookModel", name := "wearAll", desc := "()I" } : Jvm.MethodName) prog_14_method_92_code (3 : Nat) (Option.some Jvm.ClassFile.FieldType.int)) ∈ pm_tbl := pm_mem 1352 (by decide +kernel) rfl
theorem kw_1348 : (Jvm.Cond.code ({ cls := "StandUpBookModel", name := "stuckMany", desc := "()I" } : Jvm.MethodName) prog_14_method_93_code (3 : Nat) (Option.some Jvm.ClassFile.FieldType.int)) ∈ pm_tbl := pm_mem 1348 (by decide +kernel) rfl
theorem kw_1344 : (Jvm.Cond.code ({ cls := "StandUpBookModel", name := "countOf", desc := "(I)I" } : Jvm.MethodName) prog_14_method_94_code (2 : Nat) (Option.some Jvm.ClassFile.FieldType.int)) ∈ pm_tbl := pm_mem 1344 (by decide +kernel) rfl
theorem kw_1340 : (Jvm.Cond.code ({ cls := "StandUpBookModel", name := "count", desc := "(I)I" } : Jvm.MethodName) prog_14_method_95_code (2 : Nat) (Option.some Jvm.ClassFile.FieldType.int)) ∈ pm_tbl := pm_mem 1340 (by decide +kernel) rfl
theorem kw_1361 : (Jvm.Cond.code ({ cls := "StandUpBookModel", name := "mix", desc := "(J)V" } : Jvm.MethodName) prog_14_method_96_code (3 : Nat) (Option.none : Option Jvm.ClassFile.FieldType)) ∈ pm_tbl := pm_mem 1361 (by decide +kernel) rfl
theorem kw_1356 : (Jvm.Cond.code ({ cls := "StandUpBookModel", name := "digest", desc := "()J" } : Jvm.MethodName) prog_14_method_97_code (2 : Nat) (Option.some Jvm.ClassFile.FieldType.long)) ∈ pm_tbl := pm_mem 1356 (by decide +kernel) rfl
theorem kw_562 : (Jvm.Cond.code ({ cls := "java/lang/Integer", name := "bitCount", desc := "(I)I" } : Jvm.MethodName) prog_15_method_49_code (1 : Nat) (Option.some Jvm.ClassFile.FieldType.int)) ∈ pm_tbl := pm_mem 562 (by decide +kernel) rfl
end
section
def k_nest : List Jvm.Cond := [(Jvm.Cond.methodLinkNest "StandUpBook" (21 : Nat) ({ cls := "StandUpBook$Text", name := "<init>", desc := "()V" } : Jvm.MethodName) "StandUpBook"), (Jvm.Cond.methodLinkNest "StandUpBook" (28 : Nat) ({ cls := "StandUpBook$Walk", name := "<init>", desc := "()V" } : Jvm.MethodName) "StandUpBook"), (Jvm.Cond.methodLinkNest "StandUpBook" (59 : Nat) ({ cls := "StandUpBook$Vee", name := "<init>", desc := "()V" } : Jvm.MethodName) "StandUpBook"), (Jvm.Cond.methodLinkNest "StandUpBook" (62 : Nat) ({ cls := "StandUpBook$Tent", name := "<init>", desc := "()V" } : Jvm.MethodName) "StandUpBook"), (Jvm.Cond.methodLinkNest "StandUpBook$Tent" (3 : Nat) ({ cls := "StandUpBook$Vee", name := "<init>", desc := "()V" } : Jvm.MethodName) "StandUpBook"), (Jvm.Cond.methodLinkNest "StandUpBook" (65 : Nat) ({ cls := "StandUpBook$Box", name := "<init>", desc := "()V" } : Jvm.MethodName) "StandUpBook"), (Jvm.Cond.methodLinkNest "StandUpBook$Box" (3 : Nat) ({ cls := "StandUpBook$Vee", name := "<init>", desc := "()V" } : Jvm.MethodName) "StandUpBook"), (Jvm.Cond.methodLinkNest "StandUpBook" (68 : Nat) ({ cls := "StandUpBook$Flap", name := "<init>", desc := "()V" } : Jvm.MethodName) "StandUpBook"), (Jvm.Cond.methodLinkNest "StandUpBook$Flap" (1 : Nat) ({ cls := "StandUpBook$Vee", name := "<init>", desc := "()V" } : Jvm.MethodName) "StandUpBook"), (Jvm.Cond.methodLinkNest "StandUpBook" (71 : Nat) ({ cls := "StandUpBook$Stage", name := "<init>", desc := "()V" } : Jvm.MethodName) "StandUpBook"), (Jvm.Cond.methodLinkNest "StandUpBook$Stage" (1 : Nat) ({ cls := "StandUpBook$Box", name := "<init>", desc := "()V" } : Jvm.MethodName) "StandUpBook"), (Jvm.Cond.methodLinkNest "StandUpBook" (74 : Nat) ({ cls := "StandUpBook$Wheel", name := "<init>", desc := "()V" } : Jvm.MethodName) "StandUpBook"), (Jvm.Cond.methodLinkNest "StandUpBook$Wheel" (1 : Nat) ({ cls := "StandUpBook$Flap", name := "<init>", desc := "()V" } : Jvm.MethodName) "StandUpBook"), (Jvm.Cond.methodLinkNest "StandUpBook$Page" (35 : Nat) ({ cls := "StandUpBook$Piece", name := "<init>", desc := "()V" } : Jvm.MethodName) "StandUpBook"), (Jvm.Cond.methodLinkNest "StandUpBook$Page" (87 : Nat) ({ cls := "StandUpBook", name := "has", desc := "(II)Z" } : Jvm.MethodName) "StandUpBook"), (Jvm.Cond.methodLinkNest "StandUpBook$Piece" (34 : Nat) ({ cls := "StandUpBook", name := "mixed", desc := "(JJ)J" } : Jvm.MethodName) "StandUpBook")]
theorem k_nest_in : ∀ w ∈ k_nest, w ∈ lw_tbl := by
  intro w h
  simp only [k_nest, List.mem_cons, List.not_mem_nil, or_false] at h
  rcases h with rfl | rfl | rfl | rfl | rfl | rfl | rfl | rfl | rfl | rfl | rfl | rfl | rfl | rfl | rfl | rfl
  · exact List.mem_append_right _ (List.mem_of_getElem? (i := 33) (by decide +kernel))
  · exact List.mem_append_right _ (List.mem_of_getElem? (i := 64) (by decide +kernel))
  · exact List.mem_append_right _ (List.mem_of_getElem? (i := 81) (by decide +kernel))
  · exact List.mem_append_right _ (List.mem_of_getElem? (i := 88) (by decide +kernel))
  · exact List.mem_append_right _ (List.mem_of_getElem? (i := 91) (by decide +kernel))
  · exact List.mem_append_right _ (List.mem_of_getElem? (i := 95) (by decide +kernel))
  · exact List.mem_append_right _ (List.mem_of_getElem? (i := 98) (by decide +kernel))
  · exact List.mem_append_right _ (List.mem_of_getElem? (i := 102) (by decide +kernel))
  · exact List.mem_append_right _ (List.mem_of_getElem? (i := 105) (by decide +kernel))
  · exact List.mem_append_right _ (List.mem_of_getElem? (i := 109) (by decide +kernel))
  · exact List.mem_append_right _ (List.mem_of_getElem? (i := 112) (by decide +kernel))
  · exact List.mem_append_right _ (List.mem_of_getElem? (i := 116) (by decide +kernel))
  · exact List.mem_append_right _ (List.mem_of_getElem? (i := 119) (by decide +kernel))
  · exact List.mem_append_right _ (List.mem_of_getElem? (i := 138) (by decide +kernel))
  · exact List.mem_append_right _ (List.mem_of_getElem? (i := 509) (by decide +kernel))
  · exact List.mem_append_right _ (List.mem_of_getElem? (i := 849) (by decide +kernel))
def k_cs : List (Nat × Nat × Nat × Nat × Nat × Nat) := [(0, 3, 6, 8, 58, 0), (0, 3, 6, 0, 58, 0), (0, 3, 6, 5, 58, 0), (0, 3, 6, 1, 58, 0), (0, 3, 6, 10, 58, 0), (0, 3, 6, 6, 58, 0), (0, 9, 7, 0, 59, 3), (0, 9, 7, 5, 59, 3), (0, 13, 7, 0, 60, 2), (0, 13, 7, 5, 60, 2), (0, 17, 7, 0, 61, 0), (0, 17, 7, 5, 61, 0), (1, 1, 6, 8, 58, 0), (1, 1, 6, 0, 58, 0), (1, 1, 6, 5, 58, 0), (1, 1, 6, 1, 58, 0), (1, 1, 6, 10, 58, 0), (1, 1, 6, 6, 58, 0), (1, 7, 7, 1, 59, 3), (1, 7, 7, 10, 59, 3), (1, 11, 7, 1, 60, 2), (1, 11, 7, 10, 60, 2), (2, 35, 6, 3, 29, 0), (2, 36, 2, 3, 31, 1), (2, 40, 2, 2, 10, 0), (2, 65, 3, 8, 61, 0), (2, 65, 3, 0, 3, 0), (2, 65, 3, 5, 41, 0), (2, 65, 3, 1, 61, 0), (2, 65, 3, 10, 69, 0), (2, 65, 3, 6, 61, 0), (2, 80, 2, 3, 30, 0), (2, 87, 1, 0, 114, 2), (2, 91, 0, 0, 14, 2), (2, 94, 0, 0, 227, 1), (2, 99, 3, 8, 59, 3), (2, 99, 3, 0, 1, 3), (2, 99, 3, 5, 40, 3), (2, 99, 3, 1, 5, 3), (2, 99, 3, 10, 67, 3), (2, 99, 3, 6, 43, 3), (2, 103, 3, 8, 60, 2), (2, 103, 3, 0, 2, 2), (2, 103, 3, 5, 2, 2), (2, 103, 3, 1, 6, 2), (2, 103, 3, 10, 68, 2), (2, 103, 3, 6, 60, 2), (2, 106, 2, 2, 20, 2), (2, 110, 2, 2, 22, 1), (2, 114, 2, 2, 21, 2), (2, 120, 2, 2, 16, 1), (2, 123, 2, 2, 25, 1), (2, 126, 2, 3, 32, 1), (3, 34, 1, 0, 128, 2), (4, 35, 5, 2, 7, 1), (4, 42, 2, 2, 8, 1), (4, 46, 2, 4, 36, 0), (4, 49, 2, 2, 9, 1), (5, 1, 6, 0, 0, 0), (5, 1, 6, 5, 0, 0), (5, 7, 7, 5, 1, 3), (5, 11, 7, 5, 3, 0), (6, 3, 6, 8, 58, 0), (6, 3, 6, 0, 58, 0), (6, 3, 6, 5, 58, 0), (6, 3, 6, 1, 58, 0), (6, 3, 6, 10, 58, 0), (6, 3, 6, 6, 58, 0), (6, 9, 7, 6, 59, 3), (7, 34, 2, 7, 54, 0), (7, 37, 2, 7, 47, 1), (7, 43, 2, 7, 53, 1), (7, 47, 2, 2, 10, 0), (7, 53, 2, 7, 48, 2), (7, 61, 2, 7, 49, 1), (7, 66, 2, 7, 50, 1), (7, 71, 2, 7, 51, 2), (7, 75, 2, 7, 52, 0), (7, 78, 2, 2, 8, 1), (7, 85, 2, 2, 11, 5), (7, 89, 2, 2, 12, 1), (7, 110, 2, 7, 56, 1), (7, 114, 2, 7, 57, 1), (7, 117, 2, 7, 55, 0), (9, 25, 2, 9, 63, 2), (9, 32, 2, 9, 64, 3), (10, 1, 6, 1, 4, 0), (10, 1, 6, 10, 4, 0), (10, 7, 7, 10, 5, 3), (10, 11, 7, 10, 6, 2), (10, 15, 4, 10, 61, 0), (11, 21, 6, 7, 44, 0), (11, 28, 6, 9, 62, 0), (11, 59, 6, 8, 58, 0), (11, 59, 6, 0, 58, 0), (11, 59, 6, 5, 58, 0), (11, 59, 6, 1, 58, 0), (11, 59, 6, 10, 58, 0), (11, 59, 6, 6, 58, 0), (11, 62, 6, 6, 42, 0), (11, 65, 6, 0, 0, 0), (11, 65, 6, 5, 0, 0), (11, 68, 6, 1, 4, 0), (11, 68, 6, 10, 4, 0), (11, 71, 6, 5, 39, 0), (11, 74, 6, 10, 66, 0), (11, 75, 5, 4, 33, 1), (11, 84, 5, 2, 7, 1), (11, 89, 0, 0, 113, 3), (11, 93, 2, 11, 106, 0), (11, 103, 2, 4, 34, 1), (11, 107, 2, 2, 10, 0), (11, 111, 2, 11, 109, 0), (11, 117, 2, 2, 11, 5), (11, 124, 2, 7, 45, 1), (11, 127, 2, 7, 46, 1), (11, 134, 2, 2, 9, 1), (11, 138, 0, 0, 112, 1), (11, 145, 2, 11, 108, 0), (11, 148, 2, 4, 35, 0), (11, 151, 2, 2, 12, 1), (11, 154, 2, 2, 21, 2), (11, 158, 2, 11, 110, 1), (11, 176, 2, 2, 13, 1), (11, 180, 2, 4, 37, 0), (11, 201, 2, 3, 30, 0), (11, 204, 2, 2, 15, 2), (11, 207, 2, 2, 16, 1), (11, 213, 2, 2, 20, 2), (11, 220, 2, 11, 115, 1), (11, 223, 0, 0, 114, 2), (11, 227, 2, 2, 23, 1), (11, 230, 2, 2, 26, 0), (11, 233, 2, 2, 27, 0), (11, 236, 2, 11, 111, 1), (11, 239, 2, 11, 107, 0), (11, 248, 2, 9, 63, 2), (11, 251, 2, 9, 64, 3), (11, 255, 2, 9, 65, 2), (11, 258, 2, 2, 18, 1), (11, 261, 0, 0, 116, 4), (11, 272, 2, 11, 117, 1), (11, 275, 2, 11, 119, 4), (11, 278, 2, 11, 121, 0), (11, 281, 2, 2, 24, 1), (11, 284, 2, 11, 122, 2), (11, 287, 2, 2, 17, 0), (11, 290, 0, 0, 227, 1), (11, 295, 0, 0, 125, 2), (11, 299, 2, 11, 126, 2), (11, 314, 2, 4, 38, 1), (11, 317, 2, 2, 19, 0), (11, 322, 2, 11, 104, 1), (11, 325, 0, 0, 128, 2), (11, 329, 2, 2, 28, 1), (11, 333, 0, 0, 129, 3), (11, 345, 2, 11, 118, 2), (11, 352, 3, 8, 59, 3), (11, 352, 3, 0, 1, 3), (11, 352, 3, 5, 40, 3), (11, 352, 3, 1, 5, 3), (11, 352, 3, 10, 67, 3), (11, 352, 3, 6, 43, 3), (11, 355, 2, 11, 120, 5), (11, 358, 2, 11, 123, 2), (11, 361, 2, 11, 124, 2), (11, 364, 0, 0, 127, 2), (12, 92, 2, 12, 140, 1), (12, 115, 0, 0, 134, 3), (12, 119, 2, 12, 130, 0), (12, 123, 2, 12, 133, 0), (12, 126, 2, 12, 145, 5), (12, 136, 2, 12, 149, 0), (12, 139, 0, 0, 151, 1), (12, 143, 2, 12, 153, 0), (12, 146, 2, 12, 154, 1), (12, 150, 2, 12, 150, 0), (12, 153, 0, 0, 152, 1), (12, 159, 2, 12, 156, 2), (12, 163, 2, 12, 157, 0), (12, 167, 2, 12, 175, 1), (12, 170, 2, 12, 155, 0), (12, 173, 2, 12, 159, 0), (12, 176, 2, 12, 160, 0), (12, 179, 2, 12, 158, 1), (12, 183, 2, 12, 162, 0), (12, 186, 2, 12, 161, 0), (12, 189, 2, 12, 216, 2), (12, 193, 2, 12, 163, 0), (12, 196, 2, 12, 217, 2), (12, 199, 0, 0, 167, 1), (12, 202, 2, 12, 168, 1), (12, 208, 0, 0, 135, 2), (12, 211, 0, 0, 165, 4), (12, 215, 2, 12, 169, 2), (12, 219, 2, 12, 170, 2), (12, 222, 2, 12, 172, 2), (12, 225, 0, 0, 136, 2), (12, 228, 0, 0, 142, 1), (12, 231, 2, 12, 132, 0), (12, 234, 2, 12, 174, 0), (12, 237, 2, 12, 171, 1), (12, 240, 2, 12, 141, 1), (12, 243, 2, 12, 173, 2), (12, 246, 2, 12, 166, 1), (12, 249, 0, 0, 138, 1), (12, 252, 0, 0, 137, 2), (12, 255, 2, 12, 186, 1), (12, 261, 2, 12, 190, 1), (12, 264, 2, 12, 143, 1), (12, 267, 2, 12, 131, 0), (12, 270, 2, 12, 188, 0), (12, 274, 2, 12, 189, 3), (12, 277, 2, 12, 191, 2), (12, 281, 2, 12, 192, 1), (12, 284, 2, 12, 195, 1), (12, 287, 2, 12, 197, 3), (12, 291, 2, 12, 202, 1), (12, 294, 0, 0, 204, 4), (12, 297, 2, 12, 206, 0), (12, 300, 2, 12, 208, 2), (12, 303, 2, 12, 209, 2), (12, 306, 2, 12, 210, 2), (12, 314, 2, 12, 212, 2), (12, 329, 2, 12, 222, 0), (12, 332, 2, 12, 221, 0), (12, 335, 2, 12, 223, 1), (12, 345, 2, 12, 225, 1), (13, 9, 5, 11, 70, 0), (13, 12, 5, 12, 139, 0), (13, 13, 2, 11, 71, 1), (13, 17, 2, 12, 144, 1), (13, 18, 2, 11, 72, 5), (13, 22, 2, 12, 146, 5), (13, 23, 2, 11, 73, 1), (13, 26, 2, 12, 147, 1), (13, 27, 2, 11, 74, 0), (13, 31, 2, 12, 148, 0), (13, 32, 2, 11, 75, 0), (13, 35, 2, 12, 164, 0), (13, 36, 2, 11, 76, 1), (13, 39, 2, 12, 176, 1), (13, 40, 2, 11, 77, 2), (13, 44, 2, 12, 177, 2), (13, 45, 2, 11, 78, 1), (13, 48, 2, 12, 178, 1), (13, 49, 2, 11, 79, 0), (13, 52, 2, 12, 179, 0), (13, 53, 2, 11, 80, 2), (13, 56, 2, 12, 180, 2), (13, 57, 2, 11, 81, 3), (13, 61, 2, 12, 181, 3), (13, 62, 2, 11, 82, 2), (13, 65, 2, 12, 182, 2), (13, 66, 2, 11, 83, 1), (13, 69, 2, 12, 183, 1), (13, 70, 2, 11, 84, 1), (13, 73, 2, 12, 184, 1), (13, 74, 2, 11, 85, 1), (13, 77, 2, 12, 185, 1), (13, 78, 2, 11, 86, 1), (13, 81, 2, 12, 187, 1), (13, 82, 2, 11, 87, 2), (13, 85, 2, 12, 193, 2), (13, 86, 2, 11, 88, 3), (13, 89, 2, 12, 194, 3), (13, 90, 2, 11, 89, 0), (13, 93, 2, 12, 196, 0), (13, 94, 2, 11, 90, 2), (13, 97, 2, 12, 198, 2), (13, 98, 2, 11, 91, 5), (13, 101, 2, 12, 199, 5), (13, 102, 2, 11, 92, 2), (13, 105, 2, 12, 200, 2), (13, 106, 2, 11, 93, 1), (13, 109, 2, 12, 201, 1), (13, 110, 2, 11, 94, 1), (13, 113, 2, 12, 203, 1), (13, 114, 2, 11, 95, 1), (13, 117, 2, 12, 205, 1), (13, 118, 2, 11, 96, 2), (13, 121, 2, 12, 207, 2), (13, 122, 2, 11, 97, 1), (13, 125, 2, 12, 211, 1), (13, 126, 2, 11, 98, 2), (13, 129, 2, 12, 213, 2), (13, 130, 2, 11, 99, 2), (13, 133, 2, 12, 214, 2), (13, 134, 2, 11, 100, 1), (13, 138, 2, 12, 215, 1), (13, 139, 2, 11, 101, 1), (13, 142, 2, 12, 218, 1), (13, 143, 2, 11, 102, 1), (13, 146, 2, 12, 219, 1), (13, 147, 2, 11, 103, 1), (13, 150, 2, 12, 220, 1), (13, 151, 2, 11, 104, 1), (13, 154, 2, 12, 224, 1), (13, 155, 2, 11, 105, 0), (13, 159, 2, 12, 226, 0), (4, 53, 8, 0, 0, 5), (2, 3, 9, 0, 0, 0), (3, 1, 9, 0, 0, 0), (4, 3, 9, 0, 0, 0), (7, 3, 9, 0, 0, 0), (8, 3, 9, 0, 0, 0), (9, 3, 9, 0, 0, 0), (11, 1, 9, 0, 0, 0), (12, 7, 9, 0, 0, 0), (2, 74, 12, 0, 0, 0), (2, 83, 11, 0, 0, 0), (2, 117, 10, 0, 0, 0), (9, 19, 10, 0, 0, 0), (9, 29, 11, 0, 0, 0), (11, 337, 11, 0, 0, 0), (11, 342, 10, 0, 0, 0)]
def k_fd : List (Nat × Nat × Nat × Nat) := [(7, 9, 7, 0), (7, 15, 7, 1), (11, 121, 7, 1), (7, 19, 7, 2), (7, 22, 7, 3), (7, 25, 7, 4), (7, 28, 7, 5), (7, 31, 7, 6), (9, 9, 9, 0), (11, 242, 9, 0), (9, 15, 9, 1), (11, 245, 9, 1), (3, 16, 3, 0), (2, 44, 3, 0), (11, 183, 3, 0), (3, 19, 3, 1), (2, 47, 3, 1), (11, 186, 3, 1), (3, 22, 3, 2), (2, 50, 3, 2), (11, 189, 3, 2), (3, 25, 3, 3), (2, 53, 3, 3), (11, 192, 3, 3), (3, 28, 3, 4), (2, 56, 3, 4), (11, 195, 3, 4), (3, 31, 3, 5), (2, 59, 3, 5), (7, 96, 3, 5), (11, 165, 3, 5), (3, 7, 3, 6), (2, 62, 3, 6), (11, 198, 3, 6), (3, 13, 3, 7), (2, 71, 3, 7), (11, 210, 3, 7), (2, 31, 2, 0), (11, 348, 2, 0), (2, 11, 2, 1), (7, 92, 2, 1), (11, 161, 2, 1), (2, 17, 2, 2), (11, 217, 2, 2), (2, 21, 2, 3), (11, 131, 2, 3), (2, 25, 2, 4), (11, 142, 2, 4), (2, 28, 2, 5), (11, 100, 2, 5), (7, 82, 2, 5), (4, 38, 4, 0), (11, 97, 4, 0), (4, 11, 4, 1), (4, 19, 4, 2), (11, 265, 4, 2), (4, 22, 4, 3), (11, 269, 4, 3), (4, 25, 4, 4), (11, 114, 4, 4), (4, 29, 4, 5), (11, 170, 4, 5), (4, 32, 4, 6), (11, 173, 4, 6), (11, 78, 11, 0), (11, 11, 11, 1), (11, 15, 11, 2), (11, 22, 11, 3), (11, 85, 11, 4), (11, 29, 11, 5), (11, 33, 11, 6), (11, 37, 11, 7), (11, 40, 11, 8), (11, 44, 11, 9), (11, 47, 11, 10), (11, 51, 11, 11), (11, 54, 11, 12), (12, 1, 12, 0), (12, 96, 12, 1), (12, 100, 12, 2), (12, 103, 12, 3), (12, 106, 12, 4), (12, 109, 12, 5), (12, 13, 12, 6), (12, 16, 12, 7), (12, 19, 12, 8), (12, 22, 12, 9), (12, 25, 12, 10), (12, 28, 12, 11), (12, 31, 12, 12), (12, 34, 12, 13), (12, 37, 12, 14), (12, 40, 12, 15), (12, 43, 12, 16), (12, 130, 12, 17), (12, 133, 12, 18), (12, 156, 12, 19), (12, 46, 12, 20), (12, 49, 12, 21), (12, 205, 12, 22), (12, 52, 12, 23), (12, 55, 12, 24), (12, 112, 12, 25), (12, 58, 12, 26), (12, 61, 12, 27), (12, 64, 12, 28), (12, 67, 12, 29), (12, 70, 12, 30), (12, 258, 12, 31), (12, 73, 12, 32), (12, 76, 12, 33), (12, 79, 12, 34), (12, 309, 12, 35), (12, 82, 12, 36), (12, 86, 12, 37), (12, 89, 12, 38), (12, 340, 12, 39)]
def k_nw : List (Nat × Nat × Nat) := [(2, 9, 25), (2, 9, 3), (4, 9, 24), (4, 17, 27), (4, 9, 2), (11, 9, 23), (11, 19, 7), (11, 26, 9), (11, 57, 26), (11, 57, 8), (11, 60, 6), (11, 63, 0), (11, 66, 1), (11, 69, 5), (11, 72, 10), (11, 9, 4), (11, 82, 2), (13, 7, 11), (13, 10, 12)]
def k_ci : List (Nat × Nat × Int32) := [(14, 265, 1431655765), (14, 266, 858993459), (14, 267, 252645135), (11, 303, 999999), (12, 273, 1048576), (12, 318, 999999)]
def k_c2 : List (Nat × Nat × Int64) := [(11, 304, 1103515245), (11, 306, 12345), (11, 308, 2147483648), (11, 310, 65536), (11, 312, 13), (11, 320, 1511), (11, 367, 31), (12, 312, 10), (12, 319, 1103515245), (12, 321, 12345), (12, 323, 2147483648), (12, 325, 65536), (12, 327, 13), (12, 343, 1511), (12, 338, 31)]
def k_sx : List (Nat × Nat × Nat) := [(7, 69, 0), (7, 41, 1), (7, 57, 2), (7, 59, 3), (7, 64, 4)]
def k_wd : List String := ["book", "piece", "on", "open", "pull"]
def k_nf : Nat → Nat := fun c => match c with
  | 0 => 0
  | 1 => 0
  | 2 => 6
  | 3 => 8
  | 4 => 7
  | 5 => 0
  | 6 => 0
  | 7 => 7
  | 8 => 0
  | 9 => 2
  | 10 => 0
  | 11 => 13
  | _ => 40
def k_fin : Nat → Nat → Bool := fun c j => match c with
  | 0 => (k_T0 j).2.2.2
  | 1 => (k_T1 j).2.2.2
  | 2 => (k_T2 j).2.2.2
  | 3 => (k_T3 j).2.2.2
  | 4 => (k_T4 j).2.2.2
  | 5 => (k_T5 j).2.2.2
  | 6 => (k_T6 j).2.2.2
  | 7 => (k_T7 j).2.2.2
  | 8 => (k_T8 j).2.2.2
  | 9 => (k_T9 j).2.2.2
  | 10 => (k_T10 j).2.2.2
  | 11 => (k_T11 j).2.2.2
  | _ => (k_T12 j).2.2.2
def k_hd (y : MethodName) (n : Nat) : Prop := plainName y.cls = true ∧ y.cls ≠ "java/lang/invoke/MethodHandle" ∧ y.cls ≠ "java/lang/invoke/VarHandle" ∧ (parseMethodDescriptor y.desc).map (fun d => d.parameters.length) = some n
/-- what the tables say of a call's link -/
def k_ck (own idx kd tg : Nat) (y : MethodName) : Prop := match kd with
  | 0 => Jvm.Cond.methodLink (k_cn own) idx y ∈ pm_tbl ∧ Jvm.Cond.static y ∈ pm_tbl
  | 1 => Jvm.Cond.methodLinkNest (k_cn own) idx y "StandUpBook" ∈ k_nest ∧ Jvm.Cond.static y ∈ pm_tbl
  | 2 => Jvm.Cond.methodLink (k_cn own) idx y ∈ pm_tbl ∧ Jvm.Cond.instanceMethod y ∈ pm_tbl ∧ Jvm.Cond.selects (k_cn tg) y y ∈ pm_tbl ∧ y.cls = k_cn tg
  | 3 => ∃ x : MethodName, Jvm.Cond.methodLink (k_cn own) idx x ∈ pm_tbl ∧ Jvm.Cond.sameMethod x.cls x.cls x.name x.desc ∈ pm_tbl ∧ Jvm.Cond.instanceMethod x ∈ pm_tbl ∧ Jvm.Cond.selects (k_cn tg) x y ∈ pm_tbl ∧ Jvm.Cond.instanceMethod y ∈ pm_tbl ∧ y.name = x.name ∧ y.desc = x.desc ∧ x.cls ≠ "java/lang/invoke/MethodHandle" ∧ x.cls ≠ "java/lang/invoke/VarHandle" ∧ ∃ b0 m0 r0, Jvm.Cond.code x b0 m0 r0 ∈ pm_tbl
  | 4 => ∃ x : MethodName, Jvm.Cond.methodLink (k_cn own) idx x ∈ pm_tbl ∧ Jvm.Cond.sameMethod x.cls y.cls x.name x.desc ∈ pm_tbl ∧ Jvm.Cond.superclass (k_cn own) x.cls ∈ pm_tbl ∧ Jvm.Cond.superclass x.cls y.cls ∈ pm_tbl ∧ Jvm.Cond.instanceMethod y ∈ pm_tbl ∧ y.name = x.name ∧ y.desc = x.desc ∧ y.name ≠ "<init>"
  | 5 => Jvm.Cond.methodLink (k_cn own) idx y ∈ pm_tbl ∧ Jvm.Cond.instanceMethod y ∈ pm_tbl ∧ y.name = "<init>"
  | 6 => Jvm.Cond.methodLinkNest (k_cn own) idx y "StandUpBook" ∈ k_nest ∧ Jvm.Cond.instanceMethod y ∈ pm_tbl ∧ y.name = "<init>"
  | 7 => Jvm.Cond.methodLink (k_cn own) idx y ∈ pm_tbl ∧ Jvm.Cond.sameMethod y.cls y.cls y.name y.desc ∈ pm_tbl ∧ Jvm.Cond.superclass (k_cn own) y.cls ∈ pm_tbl ∧ Jvm.Cond.instanceMethod y ∈ pm_tbl ∧ y.name ≠ "<init>"
  | 8 => Jvm.Cond.methodLink (k_cn own) idx arraycopyName ∈ pm_tbl
  | 9 => Jvm.Cond.methodLink (k_cn own) idx Lib.objectInit ∈ pm_tbl
  | 10 => Jvm.Cond.methodLink (k_cn own) idx Lib.Math.max.name ∈ pm_tbl
  | 11 => Jvm.Cond.methodLink (k_cn own) idx Lib.Math.min.name ∈ pm_tbl
  | 12 => Jvm.Cond.methodLink (k_cn own) idx Lib.Math.abs.name ∈ pm_tbl
  | _ => False
def k_cok (r : Nat × Nat × Nat × Nat × Nat × Nat) : Prop := ∃ q, pm_all[r.2.2.2.2.1]? = some q ∧ (r.2.2.1 < 8 → k_hd q.1 r.2.2.2.2.2) ∧ k_ck r.1 r.2.1 r.2.2.1 r.2.2.2.1 q.1

theorem kh_58 : k_hd q_58.1 0 := ⟨by decide, by decide, by decide, by decide +kernel⟩
theorem kr_0 : k_cok (0, 3, 6, 8, 58, 0) := ⟨q_58, rfl, fun _ => kh_58, ⟨List.mem_of_getElem? (i := 6) rfl, kw_82, rfl⟩⟩
theorem kr_1 : k_cok (0, 3, 6, 0, 58, 0) := ⟨q_58, rfl, fun _ => kh_58, ⟨List.mem_of_getElem? (i := 6) rfl, kw_82, rfl⟩⟩
theorem kr_2 : k_cok (0, 3, 6, 5, 58, 0) := ⟨q_58, rfl, fun _ => kh_58, ⟨List.mem_of_getElem? (i := 6) rfl, kw_82, rfl⟩⟩
theorem kr_3 : k_cok (0, 3, 6, 1, 58, 0) := ⟨q_58, rfl, fun _ => kh_58, ⟨List.mem_of_getElem? (i := 6) rfl, kw_82, rfl⟩⟩
theorem kr_4 : k_cok (0, 3, 6, 10, 58, 0) := ⟨q_58, rfl, fun _ => kh_58, ⟨List.mem_of_getElem? (i := 6) rfl, kw_82, rfl⟩⟩
theorem kr_5 : k_cok (0, 3, 6, 6, 58, 0) := ⟨q_58, rfl, fun _ => kh_58, ⟨List.mem_of_getElem? (i := 6) rfl, kw_82, rfl⟩⟩
theorem kh_59 : k_hd q_59.1 3 := ⟨by decide, by decide, by decide, by decide +kernel⟩
theorem kr_6 : k_cok (0, 9, 7, 0, 59, 3) := ⟨q_59, rfl, fun _ => kh_59, ⟨kw_519, kw_515, kw_99, kw_513, by decide⟩⟩
theorem kr_7 : k_cok (0, 9, 7, 5, 59, 3) := ⟨q_59, rfl, fun _ => kh_59, ⟨kw_519, kw_515, kw_99, kw_513, by decide⟩⟩
theorem kh_60 : k_hd q_60.1 2 := ⟨by decide, by decide, by decide, by decide +kernel⟩
theorem kr_8 : k_cok (0, 13, 7, 0, 60, 2) := ⟨q_60, rfl, fun _ => kh_60, ⟨kw_598, kw_594, kw_99, kw_592, by decide⟩⟩
theorem kr_9 : k_cok (0, 13, 7, 5, 60, 2) := ⟨q_60, rfl, fun _ => kh_60, ⟨kw_598, kw_594, kw_99, kw_592, by decide⟩⟩
theorem kh_61 : k_hd q_61.1 0 := ⟨by decide, by decide, by decide, by decide +kernel⟩
theorem kr_10 : k_cok (0, 17, 7, 0, 61, 0) := ⟨q_61, rfl, fun _ => kh_61, ⟨kw_324, kw_320, kw_99, kw_318, by decide⟩⟩
theorem kr_11 : k_cok (0, 17, 7, 5, 61, 0) := ⟨q_61, rfl, fun _ => kh_61, ⟨kw_324, kw_320, kw_99, kw_318, by decide⟩⟩
theorem kr_12 : k_cok (1, 1, 6, 8, 58, 0) := ⟨q_58, rfl, fun _ => kh_58, ⟨List.mem_of_getElem? (i := 8) rfl, kw_82, rfl⟩⟩
theorem kr_13 : k_cok (1, 1, 6, 0, 58, 0) := ⟨q_58, rfl, fun _ => kh_58, ⟨List.mem_of_getElem? (i := 8) rfl, kw_82, rfl⟩⟩
theorem kr_14 : k_cok (1, 1, 6, 5, 58, 0) := ⟨q_58, rfl, fun _ => kh_58, ⟨List.mem_of_getElem? (i := 8) rfl, kw_82, rfl⟩⟩
theorem kr_15 : k_cok (1, 1, 6, 1, 58, 0) := ⟨q_58, rfl, fun _ => kh_58, ⟨List.mem_of_getElem? (i := 8) rfl, kw_82, rfl⟩⟩
theorem kr_16 : k_cok (1, 1, 6, 10, 58, 0) := ⟨q_58, rfl, fun _ => kh_58, ⟨List.mem_of_getElem? (i := 8) rfl, kw_82, rfl⟩⟩
theorem kr_17 : k_cok (1, 1, 6, 6, 58, 0) := ⟨q_58, rfl, fun _ => kh_58, ⟨List.mem_of_getElem? (i := 8) rfl, kw_82, rfl⟩⟩
theorem kr_18 : k_cok (1, 7, 7, 1, 59, 3) := ⟨q_59, rfl, fun _ => kh_59, ⟨kw_523, kw_515, kw_106, kw_513, by decide⟩⟩
theorem kr_19 : k_cok (1, 7, 7, 10, 59, 3) := ⟨q_59, rfl, fun _ => kh_59, ⟨kw_523, kw_515, kw_106, kw_513, by decide⟩⟩
theorem kr_20 : k_cok (1, 11, 7, 1, 60, 2) := ⟨q_60, rfl, fun _ => kh_60, ⟨kw_602, kw_594, kw_106, kw_592, by decide⟩⟩
theorem kr_21 : k_cok (1, 11, 7, 10, 60, 2) := ⟨q_60, rfl, fun _ => kh_60, ⟨kw_602, kw_594, kw_106, kw_592, by decide⟩⟩
theorem kh_29 : k_hd q_29.1 0 := ⟨by decide, by decide, by decide, by decide +kernel⟩
theorem kr_22 : k_cok (2, 35, 6, 3, 29, 0) := ⟨q_29, rfl, fun _ => kh_29, ⟨List.mem_of_getElem? (i := 13) rfl, kw_139, rfl⟩⟩
theorem kh_31 : k_hd q_31.1 1 := ⟨by decide, by decide, by decide, by decide +kernel⟩
theorem kr_23 : k_cok (2, 36, 2, 3, 31, 1) := ⟨q_31, rfl, fun _ => kh_31, ⟨kw_476, kw_477, kw_478, rfl⟩⟩
theorem kh_10 : k_hd q_10.1 0 := ⟨by decide, by decide, by decide, by decide +kernel⟩
theorem kr_24 : k_cok (2, 40, 2, 2, 10, 0) := ⟨q_10, rfl, fun _ => kh_10, ⟨kw_316, kw_305, kw_306, rfl⟩⟩
theorem kr_25 : k_cok (2, 65, 3, 8, 61, 0) := ⟨q_61, rfl, fun _ => kh_61, ⟨⟨"StandUpBook$Vee", "bearing", "()I"⟩, kw_317, kw_320, kw_318, kw_319, kw_318, rfl, rfl, by decide, by decide, _, _, _, kw_337⟩⟩
theorem kh_3 : k_hd q_3.1 0 := ⟨by decide, by decide, by decide, by decide +kernel⟩
theorem kr_26 : k_cok (2, 65, 3, 0, 3, 0) := ⟨q_3, rfl, fun _ => kh_3, ⟨⟨"StandUpBook$Vee", "bearing", "()I"⟩, kw_317, kw_320, kw_318, kw_321, kw_322, rfl, rfl, by decide, by decide, _, _, _, kw_337⟩⟩
theorem kh_41 : k_hd q_41.1 0 := ⟨by decide, by decide, by decide, by decide +kernel⟩
theorem kr_27 : k_cok (2, 65, 3, 5, 41, 0) := ⟨q_41, rfl, fun _ => kh_41, ⟨⟨"StandUpBook$Vee", "bearing", "()I"⟩, kw_317, kw_320, kw_318, kw_326, kw_327, rfl, rfl, by decide, by decide, _, _, _, kw_337⟩⟩
theorem kr_28 : k_cok (2, 65, 3, 1, 61, 0) := ⟨q_61, rfl, fun _ => kh_61, ⟨⟨"StandUpBook$Vee", "bearing", "()I"⟩, kw_317, kw_320, kw_318, kw_325, kw_318, rfl, rfl, by decide, by decide, _, _, _, kw_337⟩⟩
theorem kh_69 : k_hd q_69.1 0 := ⟨by decide, by decide, by decide, by decide +kernel⟩
theorem kr_29 : k_cok (2, 65, 3, 10, 69, 0) := ⟨q_69, rfl, fun _ => kh_69, ⟨⟨"StandUpBook$Vee", "bearing", "()I"⟩, kw_317, kw_320, kw_318, kw_331, kw_332, rfl, rfl, by decide, by decide, _, _, _, kw_337⟩⟩
theorem kr_30 : k_cok (2, 65, 3, 6, 61, 0) := ⟨q_61, rfl, fun _ => kh_61, ⟨⟨"StandUpBook$Vee", "bearing", "()I"⟩, kw_317, kw_320, kw_318, kw_330, kw_318, rfl, rfl, by decide, by decide, _, _, _, kw_337⟩⟩
theorem kh_30 : k_hd q_30.1 0 := ⟨by decide, by decide, by decide, by decide +kernel⟩
theorem kr_31 : k_cok (2, 80, 2, 3, 30, 0) := ⟨q_30, rfl, fun _ => kh_30, ⟨kw_460, kw_461, kw_462, rfl⟩⟩
theorem kh_114 : k_hd q_114.1 2 := ⟨by decide, by decide, by decide, by decide +kernel⟩
theorem kr_32 : k_cok (2, 87, 1, 0, 114, 2) := ⟨q_114, rfl, fun _ => kh_114, ⟨List.mem_of_getElem? (i := 14) rfl, kw_510⟩⟩
theorem kh_14 : k_hd q_14.1 2 := ⟨by decide, by decide, by decide, by decide +kernel⟩
theorem kr_33 : k_cok (2, 91, 0, 0, 14, 2) := ⟨q_14, rfl, fun _ => kh_14, ⟨kw_557, kw_558⟩⟩
theorem kh_227 : k_hd q_227.1 1 := ⟨by decide, by decide, by decide, by decide +kernel⟩
theorem kr_34 : k_cok (2, 94, 0, 0, 227, 1) := ⟨q_227, rfl, fun _ => kh_227, ⟨kw_560, kw_561⟩⟩
theorem kr_35 : k_cok (2, 99, 3, 8, 59, 3) := ⟨q_59, rfl, fun _ => kh_59, ⟨⟨"StandUpBook$Vee", "riseOf", "(III)I"⟩, kw_512, kw_515, kw_513, kw_514, kw_513, rfl, rfl, by decide, by decide, _, _, _, kw_536⟩⟩
theorem kh_1 : k_hd q_1.1 3 := ⟨by decide, by decide, by decide, by decide +kernel⟩
theorem kr_36 : k_cok (2, 99, 3, 0, 1, 3) := ⟨q_1, rfl, fun _ => kh_1, ⟨⟨"StandUpBook$Vee", "riseOf", "(III)I"⟩, kw_512, kw_515, kw_513, kw_516, kw_517, rfl, rfl, by decide, by decide, _, _, _, kw_536⟩⟩
theorem kh_40 : k_hd q_40.1 3 := ⟨by decide, by decide, by decide, by decide +kernel⟩
theorem kr_37 : k_cok (2, 99, 3, 5, 40, 3) := ⟨q_40, rfl, fun _ => kh_40, ⟨⟨"StandUpBook$Vee", "riseOf", "(III)I"⟩, kw_512, kw_515, kw_513, kw_524, kw_525, rfl, rfl, by decide, by decide, _, _, _, kw_536⟩⟩
theorem kh_5 : k_hd q_5.1 3 := ⟨by decide, by decide, by decide, by decide +kernel⟩
theorem kr_38 : k_cok (2, 99, 3, 1, 5, 3) := ⟨q_5, rfl, fun _ => kh_5, ⟨⟨"StandUpBook$Vee", "riseOf", "(III)I"⟩, kw_512, kw_515, kw_513, kw_520, kw_521, rfl, rfl, by decide, by decide, _, _, _, kw_536⟩⟩
theorem kh_67 : k_hd q_67.1 3 := ⟨by decide, by decide, by decide, by decide +kernel⟩
theorem kr_39 : k_cok (2, 99, 3, 10, 67, 3) := ⟨q_67, rfl, fun _ => kh_67, ⟨⟨"StandUpBook$Vee", "riseOf", "(III)I"⟩, kw_512, kw_515, kw_513, kw_532, kw_533, rfl, rfl, by decide, by decide, _, _, _, kw_536⟩⟩
theorem kh_43 : k_hd q_43.1 3 := ⟨by decide, by decide, by decide, by decide +kernel⟩
theorem kr_40 : k_cok (2, 99, 3, 6, 43, 3) := ⟨q_43, rfl, fun _ => kh_43, ⟨⟨"StandUpBook$Vee", "riseOf", "(III)I"⟩, kw_512, kw_515, kw_513, kw_528, kw_529, rfl, rfl, by decide, by decide, _, _, _, kw_536⟩⟩
theorem kr_41 : k_cok (2, 103, 3, 8, 60, 2) := ⟨q_60, rfl, fun _ => kh_60, ⟨⟨"StandUpBook$Vee", "reachOf", "(II)I"⟩, kw_591, kw_594, kw_592, kw_593, kw_592, rfl, rfl, by decide, by decide, _, _, _, kw_609⟩⟩
theorem kh_2 : k_hd q_2.1 2 := ⟨by decide, by decide, by decide, by decide +kernel⟩
theorem kr_42 : k_cok (2, 103, 3, 0, 2, 2) := ⟨q_2, rfl, fun _ => kh_2, ⟨⟨"StandUpBook$Vee", "reachOf", "(II)I"⟩, kw_591, kw_594, kw_592, kw_595, kw_596, rfl, rfl, by decide, by decide, _, _, _, kw_609⟩⟩
theorem kr_43 : k_cok (2, 103, 3, 5, 2, 2) := ⟨q_2, rfl, fun _ => kh_2, ⟨⟨"StandUpBook$Vee", "reachOf", "(II)I"⟩, kw_591, kw_594, kw_592, kw_603, kw_596, rfl, rfl, by decide, by decide, _, _, _, kw_609⟩⟩
theorem kh_6 : k_hd q_6.1 2 := ⟨by decide, by decide, by decide, by decide +kernel⟩
theorem kr_44 : k_cok (2, 103, 3, 1, 6, 2) := ⟨q_6, rfl, fun _ => kh_6, ⟨⟨"StandUpBook$Vee", "reachOf", "(II)I"⟩, kw_591, kw_594, kw_592, kw_599, kw_600, rfl, rfl, by decide, by decide, _, _, _, kw_609⟩⟩
theorem kh_68 : k_hd q_68.1 2 := ⟨by decide, by decide, by decide, by decide +kernel⟩
theorem kr_45 : k_cok (2, 103, 3, 10, 68, 2) := ⟨q_68, rfl, fun _ => kh_68, ⟨⟨"StandUpBook$Vee", "reachOf", "(II)I"⟩, kw_591, kw_594, kw_592, kw_605, kw_606, rfl, rfl, by decide, by decide, _, _, _, kw_609⟩⟩
theorem kr_46 : k_cok (2, 103, 3, 6, 60, 2) := ⟨q_60, rfl, fun _ => kh_60, ⟨⟨"StandUpBook$Vee", "reachOf", "(II)I"⟩, kw_591, kw_594, kw_592, kw_604, kw_592, rfl, rfl, by decide, by decide, _, _, _, kw_609⟩⟩
theorem kh_20 : k_hd q_20.1 2 := ⟨by decide, by decide, by decide, by decide +kernel⟩
theorem kr_47 : k_cok (2, 106, 2, 2, 20, 2) := ⟨q_20, rfl, fun _ => kh_20, ⟨kw_505, kw_506, kw_507, rfl⟩⟩
theorem kh_22 : k_hd q_22.1 1 := ⟨by decide, by decide, by decide, by decide +kernel⟩
theorem kr_48 : k_cok (2, 110, 2, 2, 22, 1) := ⟨q_22, rfl, fun _ => kh_22, ⟨kw_537, kw_539, kv_15, rfl⟩⟩
theorem kh_21 : k_hd q_21.1 2 := ⟨by decide, by decide, by decide, by decide +kernel⟩
theorem kr_49 : k_cok (2, 114, 2, 2, 21, 2) := ⟨q_21, rfl, fun _ => kh_21, ⟨kw_636, kw_502, kw_503, rfl⟩⟩
theorem kh_16 : k_hd q_16.1 1 := ⟨by decide, by decide, by decide, by decide +kernel⟩
theorem kr_50 : k_cok (2, 120, 2, 2, 16, 1) := ⟨q_16, rfl, fun _ => kh_16, ⟨kw_649, kw_588, kw_589, rfl⟩⟩
theorem kh_25 : k_hd q_25.1 1 := ⟨by decide, by decide, by decide, by decide +kernel⟩
theorem kr_51 : k_cok (2, 123, 2, 2, 25, 1) := ⟨q_25, rfl, fun _ => kh_25, ⟨kw_645, kw_647, kv_18, rfl⟩⟩
theorem kh_32 : k_hd q_32.1 1 := ⟨by decide, by decide, by decide, by decide +kernel⟩
theorem kr_52 : k_cok (2, 126, 2, 3, 32, 1) := ⟨q_32, rfl, fun _ => kh_32, ⟨kw_845, kw_846, kw_847, rfl⟩⟩
theorem kh_128 : k_hd q_128.1 2 := ⟨by decide, by decide, by decide, by decide +kernel⟩
theorem kr_53 : k_cok (3, 34, 1, 0, 128, 2) := ⟨q_128, rfl, fun _ => kh_128, ⟨List.mem_of_getElem? (i := 15) rfl, kw_838⟩⟩
theorem kh_7 : k_hd q_7.1 1 := ⟨by decide, by decide, by decide, by decide +kernel⟩
theorem kr_54 : k_cok (4, 35, 5, 2, 7, 1) := ⟨q_7, rfl, fun _ => kh_7, ⟨kw_131, kw_132, rfl⟩⟩
theorem kh_8 : k_hd q_8.1 1 := ⟨by decide, by decide, by decide, by decide +kernel⟩
theorem kr_55 : k_cok (4, 42, 2, 2, 8, 1) := ⟨q_8, rfl, fun _ => kh_8, ⟨kw_296, kw_297, kw_298, rfl⟩⟩
theorem kh_36 : k_hd q_36.1 0 := ⟨by decide, by decide, by decide, by decide +kernel⟩
theorem kr_56 : k_cok (4, 46, 2, 4, 36, 0) := ⟨q_36, rfl, fun _ => kh_36, ⟨kw_495, kw_497, kv_14, rfl⟩⟩
theorem kh_9 : k_hd q_9.1 1 := ⟨by decide, by decide, by decide, by decide +kernel⟩
theorem kr_57 : k_cok (4, 49, 2, 2, 9, 1) := ⟨q_9, rfl, fun _ => kh_9, ⟨kw_499, kw_473, kw_474, rfl⟩⟩
theorem kh_0 : k_hd q_0.1 0 := ⟨by decide, by decide, by decide, by decide +kernel⟩
theorem kr_58 : k_cok (5, 1, 6, 0, 0, 0) := ⟨q_0, rfl, fun _ => kh_0, ⟨List.mem_of_getElem? (i := 10) rfl, kw_96, rfl⟩⟩
theorem kr_59 : k_cok (5, 1, 6, 5, 0, 0) := ⟨q_0, rfl, fun _ => kh_0, ⟨List.mem_of_getElem? (i := 10) rfl, kw_96, rfl⟩⟩
theorem kr_60 : k_cok (5, 7, 7, 5, 1, 3) := ⟨q_1, rfl, fun _ => kh_1, ⟨kw_527, kw_1364, kw_113, kw_517, by decide⟩⟩
theorem kr_61 : k_cok (5, 11, 7, 5, 3, 0) := ⟨q_3, rfl, fun _ => kh_3, ⟨kw_329, kw_1363, kw_113, kw_322, by decide⟩⟩
theorem kr_62 : k_cok (6, 3, 6, 8, 58, 0) := ⟨q_58, rfl, fun _ => kh_58, ⟨List.mem_of_getElem? (i := 4) rfl, kw_82, rfl⟩⟩
theorem kr_63 : k_cok (6, 3, 6, 0, 58, 0) := ⟨q_58, rfl, fun _ => kh_58, ⟨List.mem_of_getElem? (i := 4) rfl, kw_82, rfl⟩⟩
theorem kr_64 : k_cok (6, 3, 6, 5, 58, 0) := ⟨q_58, rfl, fun _ => kh_58, ⟨List.mem_of_getElem? (i := 4) rfl, kw_82, rfl⟩⟩
theorem kr_65 : k_cok (6, 3, 6, 1, 58, 0) := ⟨q_58, rfl, fun _ => kh_58, ⟨List.mem_of_getElem? (i := 4) rfl, kw_82, rfl⟩⟩
theorem kr_66 : k_cok (6, 3, 6, 10, 58, 0) := ⟨q_58, rfl, fun _ => kh_58, ⟨List.mem_of_getElem? (i := 4) rfl, kw_82, rfl⟩⟩
theorem kr_67 : k_cok (6, 3, 6, 6, 58, 0) := ⟨q_58, rfl, fun _ => kh_58, ⟨List.mem_of_getElem? (i := 4) rfl, kw_82, rfl⟩⟩
theorem kr_68 : k_cok (6, 9, 7, 6, 59, 3) := ⟨q_59, rfl, fun _ => kh_59, ⟨kw_531, kw_515, kw_92, kw_513, by decide⟩⟩
theorem kh_54 : k_hd q_54.1 0 := ⟨by decide, by decide, by decide, by decide +kernel⟩
theorem kr_69 : k_cok (7, 34, 2, 7, 54, 0) := ⟨q_54, rfl, fun _ => kh_54, ⟨kw_358, kw_360, kv_2, rfl⟩⟩
theorem kh_47 : k_hd q_47.1 1 := ⟨by decide, by decide, by decide, by decide +kernel⟩
theorem kr_70 : k_cok (7, 37, 2, 7, 47, 1) := ⟨q_47, rfl, fun _ => kh_47, ⟨kw_374, kw_376, kv_6, rfl⟩⟩
theorem kh_53 : k_hd q_53.1 1 := ⟨by decide, by decide, by decide, by decide +kernel⟩
theorem kr_71 : k_cok (7, 43, 2, 7, 53, 1) := ⟨q_53, rfl, fun _ => kh_53, ⟨kw_379, kw_381, kv_7, rfl⟩⟩
theorem kr_72 : k_cok (7, 47, 2, 2, 10, 0) := ⟨q_10, rfl, fun _ => kh_10, ⟨kw_441, kw_305, kw_306, rfl⟩⟩
theorem kh_48 : k_hd q_48.1 2 := ⟨by decide, by decide, by decide, by decide +kernel⟩
theorem kr_73 : k_cok (7, 53, 2, 7, 48, 2) := ⟨q_48, rfl, fun _ => kh_48, ⟨kw_442, kw_444, kv_10, rfl⟩⟩
theorem kh_49 : k_hd q_49.1 1 := ⟨by decide, by decide, by decide, by decide +kernel⟩
theorem kr_74 : k_cok (7, 61, 2, 7, 49, 1) := ⟨q_49, rfl, fun _ => kh_49, ⟨kw_449, kw_451, kv_11, rfl⟩⟩
theorem kh_50 : k_hd q_50.1 1 := ⟨by decide, by decide, by decide, by decide +kernel⟩
theorem kr_75 : k_cok (7, 66, 2, 7, 50, 1) := ⟨q_50, rfl, fun _ => kh_50, ⟨kw_468, kw_470, kv_12, rfl⟩⟩
theorem kh_51 : k_hd q_51.1 2 := ⟨by decide, by decide, by decide, by decide +kernel⟩
theorem kr_76 : k_cok (7, 71, 2, 7, 51, 2) := ⟨q_51, rfl, fun _ => kh_51, ⟨kw_431, kw_433, kv_8, rfl⟩⟩
theorem kh_52 : k_hd q_52.1 0 := ⟨by decide, by decide, by decide, by decide +kernel⟩
theorem kr_77 : k_cok (7, 75, 2, 7, 52, 0) := ⟨q_52, rfl, fun _ => kh_52, ⟨kw_435, kw_437, kv_9, rfl⟩⟩
theorem kr_78 : k_cok (7, 78, 2, 2, 8, 1) := ⟨q_8, rfl, fun _ => kh_8, ⟨kw_439, kw_297, kw_298, rfl⟩⟩
theorem kh_11 : k_hd q_11.1 5 := ⟨by decide, by decide, by decide, by decide +kernel⟩
theorem kr_79 : k_cok (7, 85, 2, 2, 11, 5) := ⟨q_11, rfl, fun _ => kh_11, ⟨kw_446, kw_313, kw_314, rfl⟩⟩
theorem kh_12 : k_hd q_12.1 1 := ⟨by decide, by decide, by decide, by decide +kernel⟩
theorem kr_80 : k_cok (7, 89, 2, 2, 12, 1) := ⟨q_12, rfl, fun _ => kh_12, ⟨kw_453, kw_454, kw_455, rfl⟩⟩
theorem kh_56 : k_hd q_56.1 1 := ⟨by decide, by decide, by decide, by decide +kernel⟩
theorem kr_81 : k_cok (7, 110, 2, 7, 56, 1) := ⟨q_56, rfl, fun _ => kh_56, ⟨kw_362, kw_364, kv_3, rfl⟩⟩
theorem kh_57 : k_hd q_57.1 1 := ⟨by decide, by decide, by decide, by decide +kernel⟩
theorem kr_82 : k_cok (7, 114, 2, 7, 57, 1) := ⟨q_57, rfl, fun _ => kh_57, ⟨kw_366, kw_368, kv_4, rfl⟩⟩
theorem kh_55 : k_hd q_55.1 0 := ⟨by decide, by decide, by decide, by decide +kernel⟩
theorem kr_83 : k_cok (7, 117, 2, 7, 55, 0) := ⟨q_55, rfl, fun _ => kh_55, ⟨kw_370, kw_372, kv_5, rfl⟩⟩
theorem kh_63 : k_hd q_63.1 2 := ⟨by decide, by decide, by decide, by decide +kernel⟩
theorem kr_84 : k_cok (9, 25, 2, 9, 63, 2) := ⟨q_63, rfl, fun _ => kh_63, ⟨kw_678, kw_670, kw_671, rfl⟩⟩
theorem kh_64 : k_hd q_64.1 3 := ⟨by decide, by decide, by decide, by decide +kernel⟩
theorem kr_85 : k_cok (9, 32, 2, 9, 64, 3) := ⟨q_64, rfl, fun _ => kh_64, ⟨kw_684, kw_675, kw_676, rfl⟩⟩
theorem kh_4 : k_hd q_4.1 0 := ⟨by decide, by decide, by decide, by decide +kernel⟩
theorem kr_86 : k_cok (10, 1, 6, 1, 4, 0) := ⟨q_4, rfl, fun _ => kh_4, ⟨List.mem_of_getElem? (i := 12) rfl, kw_103, rfl⟩⟩
theorem kr_87 : k_cok (10, 1, 6, 10, 4, 0) := ⟨q_4, rfl, fun _ => kh_4, ⟨List.mem_of_getElem? (i := 12) rfl, kw_103, rfl⟩⟩
theorem kr_88 : k_cok (10, 7, 7, 10, 5, 3) := ⟨q_5, rfl, fun _ => kh_5, ⟨kw_535, kw_1365, kw_120, kw_521, by decide⟩⟩
theorem kr_89 : k_cok (10, 11, 7, 10, 6, 2) := ⟨q_6, rfl, fun _ => kh_6, ⟨kw_608, kw_1366, kw_120, kw_600, by decide⟩⟩
theorem kr_90 : k_cok (10, 15, 4, 10, 61, 0) := ⟨q_61, rfl, fun _ => kh_61, ⟨⟨"StandUpBook$Flap", "bearing", "()I"⟩, kw_334, kw_335, kw_120, kw_106, kw_318, rfl, rfl, by decide⟩⟩
theorem kh_44 : k_hd q_44.1 0 := ⟨by decide, by decide, by decide, by decide +kernel⟩
theorem kr_91 : k_cok (11, 21, 6, 7, 44, 0) := ⟨q_44, rfl, fun _ => kh_44, ⟨List.mem_of_getElem? (i := 0) rfl, kw_34, rfl⟩⟩
theorem kh_62 : k_hd q_62.1 0 := ⟨by decide, by decide, by decide, by decide +kernel⟩
theorem kr_92 : k_cok (11, 28, 6, 9, 62, 0) := ⟨q_62, rfl, fun _ => kh_62, ⟨List.mem_of_getElem? (i := 1) rfl, kw_65, rfl⟩⟩
theorem kr_93 : k_cok (11, 59, 6, 8, 58, 0) := ⟨q_58, rfl, fun _ => kh_58, ⟨List.mem_of_getElem? (i := 2) rfl, kw_82, rfl⟩⟩
theorem kr_94 : k_cok (11, 59, 6, 0, 58, 0) := ⟨q_58, rfl, fun _ => kh_58, ⟨List.mem_of_getElem? (i := 2) rfl, kw_82, rfl⟩⟩
theorem kr_95 : k_cok (11, 59, 6, 5, 58, 0) := ⟨q_58, rfl, fun _ => kh_58, ⟨List.mem_of_getElem? (i := 2) rfl, kw_82, rfl⟩⟩
theorem kr_96 : k_cok (11, 59, 6, 1, 58, 0) := ⟨q_58, rfl, fun _ => kh_58, ⟨List.mem_of_getElem? (i := 2) rfl, kw_82, rfl⟩⟩
theorem kr_97 : k_cok (11, 59, 6, 10, 58, 0) := ⟨q_58, rfl, fun _ => kh_58, ⟨List.mem_of_getElem? (i := 2) rfl, kw_82, rfl⟩⟩
theorem kr_98 : k_cok (11, 59, 6, 6, 58, 0) := ⟨q_58, rfl, fun _ => kh_58, ⟨List.mem_of_getElem? (i := 2) rfl, kw_82, rfl⟩⟩
theorem kh_42 : k_hd q_42.1 0 := ⟨by decide, by decide, by decide, by decide +kernel⟩
theorem kr_99 : k_cok (11, 62, 6, 6, 42, 0) := ⟨q_42, rfl, fun _ => kh_42, ⟨List.mem_of_getElem? (i := 3) rfl, kw_89, rfl⟩⟩
theorem kr_100 : k_cok (11, 65, 6, 0, 0, 0) := ⟨q_0, rfl, fun _ => kh_0, ⟨List.mem_of_getElem? (i := 5) rfl, kw_96, rfl⟩⟩
theorem kr_101 : k_cok (11, 65, 6, 5, 0, 0) := ⟨q_0, rfl, fun _ => kh_0, ⟨List.mem_of_getElem? (i := 5) rfl, kw_96, rfl⟩⟩
theorem kr_102 : k_cok (11, 68, 6, 1, 4, 0) := ⟨q_4, rfl, fun _ => kh_4, ⟨List.mem_of_getElem? (i := 7) rfl, kw_103, rfl⟩⟩
theorem kr_103 : k_cok (11, 68, 6, 10, 4, 0) := ⟨q_4, rfl, fun _ => kh_4, ⟨List.mem_of_getElem? (i := 7) rfl, kw_103, rfl⟩⟩
theorem kh_39 : k_hd q_39.1 0 := ⟨by decide, by decide, by decide, by decide +kernel⟩
theorem kr_104 : k_cok (11, 71, 6, 5, 39, 0) := ⟨q_39, rfl, fun _ => kh_39, ⟨List.mem_of_getElem? (i := 9) rfl, kw_110, rfl⟩⟩
theorem kh_66 : k_hd q_66.1 0 := ⟨by decide, by decide, by decide, by decide +kernel⟩
theorem kr_105 : k_cok (11, 74, 6, 10, 66, 0) := ⟨q_66, rfl, fun _ => kh_66, ⟨List.mem_of_getElem? (i := 11) rfl, kw_117, rfl⟩⟩
theorem kh_33 : k_hd q_33.1 1 := ⟨by decide, by decide, by decide, by decide +kernel⟩
theorem kr_106 : k_cok (11, 75, 5, 4, 33, 1) := ⟨q_33, rfl, fun _ => kh_33, ⟨kw_122, kw_123, rfl⟩⟩
theorem kr_107 : k_cok (11, 84, 5, 2, 7, 1) := ⟨q_7, rfl, fun _ => kh_7, ⟨kw_240, kw_132, rfl⟩⟩
theorem kh_113 : k_hd q_113.1 3 := ⟨by decide, by decide, by decide, by decide +kernel⟩
theorem kr_108 : k_cok (11, 89, 0, 0, 113, 3) := ⟨q_113, rfl, fun _ => kh_113, ⟨kw_285, kw_286⟩⟩
theorem kh_106 : k_hd q_106.1 0 := ⟨by decide, by decide, by decide, by decide +kernel⟩
theorem kr_109 : k_cok (11, 93, 2, 11, 106, 0) := ⟨q_106, rfl, fun _ => kh_106, ⟨kw_288, kw_290, kv_0, rfl⟩⟩
theorem kh_34 : k_hd q_34.1 1 := ⟨by decide, by decide, by decide, by decide +kernel⟩
theorem kr_110 : k_cok (11, 103, 2, 4, 34, 1) := ⟨q_34, rfl, fun _ => kh_34, ⟨kw_292, kw_293, kw_294, rfl⟩⟩
theorem kr_111 : k_cok (11, 107, 2, 2, 10, 0) := ⟨q_10, rfl, fun _ => kh_10, ⟨kw_304, kw_305, kw_306, rfl⟩⟩
theorem kh_109 : k_hd q_109.1 0 := ⟨by decide, by decide, by decide, by decide +kernel⟩
theorem kr_112 : k_cok (11, 111, 2, 11, 109, 0) := ⟨q_109, rfl, fun _ => kh_109, ⟨kw_308, kw_310, kv_1, rfl⟩⟩
theorem kr_113 : k_cok (11, 117, 2, 2, 11, 5) := ⟨q_11, rfl, fun _ => kh_11, ⟨kw_312, kw_313, kw_314, rfl⟩⟩
theorem kh_45 : k_hd q_45.1 1 := ⟨by decide, by decide, by decide, by decide +kernel⟩
theorem kr_114 : k_cok (11, 124, 2, 7, 45, 1) := ⟨q_45, rfl, fun _ => kh_45, ⟨kw_342, kw_343, kw_344, rfl⟩⟩
theorem kh_46 : k_hd q_46.1 1 := ⟨by decide, by decide, by decide, by decide +kernel⟩
theorem kr_115 : k_cok (11, 127, 2, 7, 46, 1) := ⟨q_46, rfl, fun _ => kh_46, ⟨kw_354, kw_355, kw_356, rfl⟩⟩
theorem kr_116 : k_cok (11, 134, 2, 2, 9, 1) := ⟨q_9, rfl, fun _ => kh_9, ⟨kw_472, kw_473, kw_474, rfl⟩⟩
theorem kh_112 : k_hd q_112.1 1 := ⟨by decide, by decide, by decide, by decide +kernel⟩
theorem kr_117 : k_cok (11, 138, 0, 0, 112, 1) := ⟨q_112, rfl, fun _ => kh_112, ⟨kw_484, kw_485⟩⟩
theorem kh_108 : k_hd q_108.1 0 := ⟨by decide, by decide, by decide, by decide +kernel⟩
theorem kr_118 : k_cok (11, 145, 2, 11, 108, 0) := ⟨q_108, rfl, fun _ => kh_108, ⟨kw_487, kw_489, kv_13, rfl⟩⟩
theorem kh_35 : k_hd q_35.1 0 := ⟨by decide, by decide, by decide, by decide +kernel⟩
theorem kr_119 : k_cok (11, 148, 2, 4, 35, 0) := ⟨q_35, rfl, fun _ => kh_35, ⟨kw_491, kw_492, kw_493, rfl⟩⟩
theorem kr_120 : k_cok (11, 151, 2, 2, 12, 1) := ⟨q_12, rfl, fun _ => kh_12, ⟨kw_500, kw_454, kw_455, rfl⟩⟩
theorem kr_121 : k_cok (11, 154, 2, 2, 21, 2) := ⟨q_21, rfl, fun _ => kh_21, ⟨kw_501, kw_502, kw_503, rfl⟩⟩
theorem kh_110 : k_hd q_110.1 1 := ⟨by decide, by decide, by decide, by decide +kernel⟩
theorem kr_122 : k_cok (11, 158, 2, 11, 110, 1) := ⟨q_110, rfl, fun _ => kh_110, ⟨kw_545, kw_547, kv_16, rfl⟩⟩
theorem kh_13 : k_hd q_13.1 1 := ⟨by decide, by decide, by decide, by decide +kernel⟩
theorem kr_123 : k_cok (11, 176, 2, 2, 13, 1) := ⟨q_13, rfl, fun _ => kh_13, ⟨kw_553, kw_554, kw_555, rfl⟩⟩
theorem kh_37 : k_hd q_37.1 0 := ⟨by decide, by decide, by decide, by decide +kernel⟩
theorem kr_124 : k_cok (11, 180, 2, 4, 37, 0) := ⟨q_37, rfl, fun _ => kh_37, ⟨kw_570, kw_571, kw_572, rfl⟩⟩
theorem kr_125 : k_cok (11, 201, 2, 3, 30, 0) := ⟨q_30, rfl, fun _ => kh_30, ⟨kw_578, kw_461, kw_462, rfl⟩⟩
theorem kh_15 : k_hd q_15.1 2 := ⟨by decide, by decide, by decide, by decide +kernel⟩
theorem kr_126 : k_cok (11, 204, 2, 2, 15, 2) := ⟨q_15, rfl, fun _ => kh_15, ⟨kw_583, kw_584, kw_585, rfl⟩⟩
theorem kr_127 : k_cok (11, 207, 2, 2, 16, 1) := ⟨q_16, rfl, fun _ => kh_16, ⟨kw_587, kw_588, kw_589, rfl⟩⟩
theorem kr_128 : k_cok (11, 213, 2, 2, 20, 2) := ⟨q_20, rfl, fun _ => kh_20, ⟨kw_614, kw_506, kw_507, rfl⟩⟩
theorem kh_115 : k_hd q_115.1 1 := ⟨by decide, by decide, by decide, by decide +kernel⟩
theorem kr_129 : k_cok (11, 220, 2, 11, 115, 1) := ⟨q_115, rfl, fun _ => kh_115, ⟨kw_623, kw_625, kv_17, rfl⟩⟩
theorem kr_130 : k_cok (11, 223, 0, 0, 114, 2) := ⟨q_114, rfl, fun _ => kh_114, ⟨kw_627, kw_510⟩⟩
theorem kh_23 : k_hd q_23.1 1 := ⟨by decide, by decide, by decide, by decide +kernel⟩
theorem kr_131 : k_cok (11, 227, 2, 2, 23, 1) := ⟨q_23, rfl, fun _ => kh_23, ⟨kw_632, kw_633, kw_634, rfl⟩⟩
theorem kh_26 : k_hd q_26.1 0 := ⟨by decide, by decide, by decide, by decide +kernel⟩
theorem kr_132 : k_cok (11, 230, 2, 2, 26, 0) := ⟨q_26, rfl, fun _ => kh_26, ⟨kw_641, kw_642, kw_643, rfl⟩⟩
theorem kh_27 : k_hd q_27.1 0 := ⟨by decide, by decide, by decide, by decide +kernel⟩
theorem kr_133 : k_cok (11, 233, 2, 2, 27, 0) := ⟨q_27, rfl, fun _ => kh_27, ⟨kw_650, kw_651, kw_652, rfl⟩⟩
theorem kh_111 : k_hd q_111.1 1 := ⟨by decide, by decide, by decide, by decide +kernel⟩
theorem kr_134 : k_cok (11, 236, 2, 11, 111, 1) := ⟨q_111, rfl, fun _ => kh_111, ⟨kw_661, kw_663, kv_19, rfl⟩⟩
theorem kh_107 : k_hd q_107.1 0 := ⟨by decide, by decide, by decide, by decide +kernel⟩
theorem kr_135 : k_cok (11, 239, 2, 11, 107, 0) := ⟨q_107, rfl, fun _ => kh_107, ⟨kw_665, kw_667, kv_20, rfl⟩⟩
theorem kr_136 : k_cok (11, 248, 2, 9, 63, 2) := ⟨q_63, rfl, fun _ => kh_63, ⟨kw_669, kw_670, kw_671, rfl⟩⟩
theorem kr_137 : k_cok (11, 251, 2, 9, 64, 3) := ⟨q_64, rfl, fun _ => kh_64, ⟨kw_674, kw_675, kw_676, rfl⟩⟩
theorem kh_65 : k_hd q_65.1 2 := ⟨by decide, by decide, by decide, by decide +kernel⟩
theorem kr_138 : k_cok (11, 255, 2, 9, 65, 2) := ⟨q_65, rfl, fun _ => kh_65, ⟨kw_680, kw_681, kw_682, rfl⟩⟩
theorem kh_18 : k_hd q_18.1 1 := ⟨by decide, by decide, by decide, by decide +kernel⟩
theorem kr_139 : k_cok (11, 258, 2, 2, 18, 1) := ⟨q_18, rfl, fun _ => kh_18, ⟨kw_693, kw_694, kw_695, rfl⟩⟩
theorem kh_116 : k_hd q_116.1 4 := ⟨by decide, by decide, by decide, by decide +kernel⟩
theorem kr_140 : k_cok (11, 261, 0, 0, 116, 4) := ⟨q_116, rfl, fun _ => kh_116, ⟨kw_701, kw_702⟩⟩
theorem kh_117 : k_hd q_117.1 1 := ⟨by decide, by decide, by decide, by decide +kernel⟩
theorem kr_141 : k_cok (11, 272, 2, 11, 117, 1) := ⟨q_117, rfl, fun _ => kh_117, ⟨kw_722, kw_724, kv_21, rfl⟩⟩
theorem kh_119 : k_hd q_119.1 4 := ⟨by decide, by decide, by decide, by decide +kernel⟩
theorem kr_142 : k_cok (11, 275, 2, 11, 119, 4) := ⟨q_119, rfl, fun _ => kh_119, ⟨kw_735, kw_737, kv_23, rfl⟩⟩
theorem kh_121 : k_hd q_121.1 0 := ⟨by decide, by decide, by decide, by decide +kernel⟩
theorem kr_143 : k_cok (11, 278, 2, 11, 121, 0) := ⟨q_121, rfl, fun _ => kh_121, ⟨kw_747, kw_749, kv_25, rfl⟩⟩
theorem kh_24 : k_hd q_24.1 1 := ⟨by decide, by decide, by decide, by decide +kernel⟩
theorem kr_144 : k_cok (11, 281, 2, 2, 24, 1) := ⟨q_24, rfl, fun _ => kh_24, ⟨kw_755, kw_756, kw_757, rfl⟩⟩
theorem kh_122 : k_hd q_122.1 2 := ⟨by decide, by decide, by decide, by decide +kernel⟩
theorem kr_145 : k_cok (11, 284, 2, 11, 122, 2) := ⟨q_122, rfl, fun _ => kh_122, ⟨kw_759, kw_761, kv_26, rfl⟩⟩
theorem kh_17 : k_hd q_17.1 0 := ⟨by decide, by decide, by decide, by decide +kernel⟩
theorem kr_146 : k_cok (11, 287, 2, 2, 17, 0) := ⟨q_17, rfl, fun _ => kh_17, ⟨kw_775, kw_776, kw_777, rfl⟩⟩
theorem kr_147 : k_cok (11, 290, 0, 0, 227, 1) := ⟨q_227, rfl, fun _ => kh_227, ⟨kw_779, kw_561⟩⟩
theorem kh_125 : k_hd q_125.1 2 := ⟨by decide, by decide, by decide, by decide +kernel⟩
theorem kr_148 : k_cok (11, 295, 0, 0, 125, 2) := ⟨q_125, rfl, fun _ => kh_125, ⟨kw_780, kw_781⟩⟩
theorem kh_126 : k_hd q_126.1 2 := ⟨by decide, by decide, by decide, by decide +kernel⟩
theorem kr_149 : k_cok (11, 299, 2, 11, 126, 2) := ⟨q_126, rfl, fun _ => kh_126, ⟨kw_783, kw_785, kv_29, rfl⟩⟩
theorem kh_38 : k_hd q_38.1 1 := ⟨by decide, by decide, by decide, by decide +kernel⟩
theorem kr_150 : k_cok (11, 314, 2, 4, 38, 1) := ⟨q_38, rfl, fun _ => kh_38, ⟨kw_808, kw_809, kw_810, rfl⟩⟩
theorem kh_19 : k_hd q_19.1 0 := ⟨by decide, by decide, by decide, by decide +kernel⟩
theorem kr_151 : k_cok (11, 317, 2, 2, 19, 0) := ⟨q_19, rfl, fun _ => kh_19, ⟨kw_827, kw_828, kw_829, rfl⟩⟩
theorem kh_104 : k_hd q_104.1 1 := ⟨by decide, by decide, by decide, by decide +kernel⟩
theorem kr_152 : k_cok (11, 322, 2, 11, 104, 1) := ⟨q_104, rfl, fun _ => kh_104, ⟨kw_836, kw_824, kw_825, rfl⟩⟩
theorem kr_153 : k_cok (11, 325, 0, 0, 128, 2) := ⟨q_128, rfl, fun _ => kh_128, ⟨kw_837, kw_838⟩⟩
theorem kh_28 : k_hd q_28.1 1 := ⟨by decide, by decide, by decide, by decide +kernel⟩
theorem kr_154 : k_cok (11, 329, 2, 2, 28, 1) := ⟨q_28, rfl, fun _ => kh_28, ⟨kw_841, kw_842, kw_843, rfl⟩⟩
theorem kh_129 : k_hd q_129.1 3 := ⟨by decide, by decide, by decide, by decide +kernel⟩
theorem kr_155 : k_cok (11, 333, 0, 0, 129, 3) := ⟨q_129, rfl, fun _ => kh_129, ⟨kw_850, kw_851⟩⟩
theorem kh_118 : k_hd q_118.1 2 := ⟨by decide, by decide, by decide, by decide +kernel⟩
theorem kr_156 : k_cok (11, 345, 2, 11, 118, 2) := ⟨q_118, rfl, fun _ => kh_118, ⟨kw_726, kw_728, kv_22, rfl⟩⟩
theorem kr_157 : k_cok (11, 352, 3, 8, 59, 3) := ⟨q_59, rfl, fun _ => kh_59, ⟨⟨"StandUpBook$Vee", "riseOf", "(III)I"⟩, kw_730, kw_515, kw_513, kw_514, kw_513, rfl, rfl, by decide, by decide, _, _, _, kw_536⟩⟩
theorem kr_158 : k_cok (11, 352, 3, 0, 1, 3) := ⟨q_1, rfl, fun _ => kh_1, ⟨⟨"StandUpBook$Vee", "riseOf", "(III)I"⟩, kw_730, kw_515, kw_513, kw_516, kw_517, rfl, rfl, by decide, by decide, _, _, _, kw_536⟩⟩
theorem kr_159 : k_cok (11, 352, 3, 5, 40, 3) := ⟨q_40, rfl, fun _ => kh_40, ⟨⟨"StandUpBook$Vee", "riseOf", "(III)I"⟩, kw_730, kw_515, kw_513, kw_524, kw_525, rfl, rfl, by decide, by decide, _, _, _, kw_536⟩⟩
theorem kr_160 : k_cok (11, 352, 3, 1, 5, 3) := ⟨q_5, rfl, fun _ => kh_5, ⟨⟨"StandUpBook$Vee", "riseOf", "(III)I"⟩, kw_730, kw_515, kw_513, kw_520, kw_521, rfl, rfl, by decide, by decide, _, _, _, kw_536⟩⟩
theorem kr_161 : k_cok (11, 352, 3, 10, 67, 3) := ⟨q_67, rfl, fun _ => kh_67, ⟨⟨"StandUpBook$Vee", "riseOf", "(III)I"⟩, kw_730, kw_515, kw_513, kw_532, kw_533, rfl, rfl, by decide, by decide, _, _, _, kw_536⟩⟩
theorem kr_162 : k_cok (11, 352, 3, 6, 43, 3) := ⟨q_43, rfl, fun _ => kh_43, ⟨⟨"StandUpBook$Vee", "riseOf", "(III)I"⟩, kw_730, kw_515, kw_513, kw_528, kw_529, rfl, rfl, by decide, by decide, _, _, _, kw_536⟩⟩
theorem kh_120 : k_hd q_120.1 5 := ⟨by decide, by decide, by decide, by decide +kernel⟩
theorem kr_163 : k_cok (11, 355, 2, 11, 120, 5) := ⟨q_120, rfl, fun _ => kh_120, ⟨kw_739, kw_741, kv_24, rfl⟩⟩
theorem kh_123 : k_hd q_123.1 2 := ⟨by decide, by decide, by decide, by decide +kernel⟩
theorem kr_164 : k_cok (11, 358, 2, 11, 123, 2) := ⟨q_123, rfl, fun _ => kh_123, ⟨kw_763, kw_765, kv_27, rfl⟩⟩
theorem kh_124 : k_hd q_124.1 2 := ⟨by decide, by decide, by decide, by decide +kernel⟩
theorem kr_165 : k_cok (11, 361, 2, 11, 124, 2) := ⟨q_124, rfl, fun _ => kh_124, ⟨kw_767, kw_769, kv_28, rfl⟩⟩
theorem kh_127 : k_hd q_127.1 2 := ⟨by decide, by decide, by decide, by decide +kernel⟩
theorem kr_166 : k_cok (11, 364, 0, 0, 127, 2) := ⟨q_127, rfl, fun _ => kh_127, ⟨kw_787, kw_788⟩⟩
theorem kh_140 : k_hd q_140.1 1 := ⟨by decide, by decide, by decide, by decide +kernel⟩
theorem kr_167 : k_cok (12, 92, 2, 12, 140, 1) := ⟨q_140, rfl, fun _ => kh_140, ⟨kw_859, kw_861, kv_30, rfl⟩⟩
theorem kh_134 : k_hd q_134.1 3 := ⟨by decide, by decide, by decide, by decide +kernel⟩
theorem kr_168 : k_cok (12, 115, 0, 0, 134, 3) := ⟨q_134, rfl, fun _ => kh_134, ⟨kw_988, kw_989⟩⟩
theorem kh_130 : k_hd q_130.1 0 := ⟨by decide, by decide, by decide, by decide +kernel⟩
theorem kr_169 : k_cok (12, 119, 2, 12, 130, 0) := ⟨q_130, rfl, fun _ => kh_130, ⟨kw_991, kw_993, kv_31, rfl⟩⟩
theorem kh_133 : k_hd q_133.1 0 := ⟨by decide, by decide, by decide, by decide +kernel⟩
theorem kr_170 : k_cok (12, 123, 2, 12, 133, 0) := ⟨q_133, rfl, fun _ => kh_133, ⟨kw_999, kw_1001, kv_32, rfl⟩⟩
theorem kh_145 : k_hd q_145.1 5 := ⟨by decide, by decide, by decide, by decide +kernel⟩
theorem kr_171 : k_cok (12, 126, 2, 12, 145, 5) := ⟨q_145, rfl, fun _ => kh_145, ⟨kw_1003, kw_1005, kv_33, rfl⟩⟩
theorem kh_149 : k_hd q_149.1 0 := ⟨by decide, by decide, by decide, by decide +kernel⟩
theorem kr_172 : k_cok (12, 136, 2, 12, 149, 0) := ⟨q_149, rfl, fun _ => kh_149, ⟨kw_1039, kw_1041, kv_39, rfl⟩⟩
theorem kh_151 : k_hd q_151.1 1 := ⟨by decide, by decide, by decide, by decide +kernel⟩
theorem kr_173 : k_cok (12, 139, 0, 0, 151, 1) := ⟨q_151, rfl, fun _ => kh_151, ⟨kw_1051, kw_1052⟩⟩
theorem kh_153 : k_hd q_153.1 0 := ⟨by decide, by decide, by decide, by decide +kernel⟩
theorem kr_174 : k_cok (12, 143, 2, 12, 153, 0) := ⟨q_153, rfl, fun _ => kh_153, ⟨kw_1047, kw_1049, kv_41, rfl⟩⟩
theorem kh_154 : k_hd q_154.1 1 := ⟨by decide, by decide, by decide, by decide +kernel⟩
theorem kr_175 : k_cok (12, 146, 2, 12, 154, 1) := ⟨q_154, rfl, fun _ => kh_154, ⟨kw_1054, kw_1056, kv_42, rfl⟩⟩
theorem kh_150 : k_hd q_150.1 0 := ⟨by decide, by decide, by decide, by decide +kernel⟩
theorem kr_176 : k_cok (12, 150, 2, 12, 150, 0) := ⟨q_150, rfl, fun _ => kh_150, ⟨kw_1035, kw_1037, kv_38, rfl⟩⟩
theorem kh_152 : k_hd q_152.1 1 := ⟨by decide, by decide, by decide, by decide +kernel⟩
theorem kr_177 : k_cok (12, 153, 0, 0, 152, 1) := ⟨q_152, rfl, fun _ => kh_152, ⟨kw_1062, kw_1063⟩⟩
theorem kh_156 : k_hd q_156.1 2 := ⟨by decide, by decide, by decide, by decide +kernel⟩
theorem kr_178 : k_cok (12, 159, 2, 12, 156, 2) := ⟨q_156, rfl, fun _ => kh_156, ⟨kw_1058, kw_1060, kv_43, rfl⟩⟩
theorem kh_157 : k_hd q_157.1 0 := ⟨by decide, by decide, by decide, by decide +kernel⟩
theorem kr_179 : k_cok (12, 163, 2, 12, 157, 0) := ⟨q_157, rfl, fun _ => kh_157, ⟨kw_1065, kw_1067, kv_44, rfl⟩⟩
theorem kh_175 : k_hd q_175.1 1 := ⟨by decide, by decide, by decide, by decide +kernel⟩
theorem kr_180 : k_cok (12, 167, 2, 12, 175, 1) := ⟨q_175, rfl, fun _ => kh_175, ⟨kw_1077, kw_1079, kv_47, rfl⟩⟩
theorem kh_155 : k_hd q_155.1 0 := ⟨by decide, by decide, by decide, by decide +kernel⟩
theorem kr_181 : k_cok (12, 170, 2, 12, 155, 0) := ⟨q_155, rfl, fun _ => kh_155, ⟨kw_1043, kw_1045, kv_40, rfl⟩⟩
theorem kh_159 : k_hd q_159.1 0 := ⟨by decide, by decide, by decide, by decide +kernel⟩
theorem kr_182 : k_cok (12, 173, 2, 12, 159, 0) := ⟨q_159, rfl, fun _ => kh_159, ⟨kw_1073, kw_1075, kv_46, rfl⟩⟩
theorem kh_160 : k_hd q_160.1 0 := ⟨by decide, by decide, by decide, by decide +kernel⟩
theorem kr_183 : k_cok (12, 176, 2, 12, 160, 0) := ⟨q_160, rfl, fun _ => kh_160, ⟨kw_1091, kw_1093, kv_49, rfl⟩⟩
theorem kh_158 : k_hd q_158.1 1 := ⟨by decide, by decide, by decide, by decide +kernel⟩
theorem kr_184 : k_cok (12, 179, 2, 12, 158, 1) := ⟨q_158, rfl, fun _ => kh_158, ⟨kw_1095, kw_1097, kv_50, rfl⟩⟩
theorem kh_162 : k_hd q_162.1 0 := ⟨by decide, by decide, by decide, by decide +kernel⟩
theorem kr_185 : k_cok (12, 183, 2, 12, 162, 0) := ⟨q_162, rfl, fun _ => kh_162, ⟨kw_1031, kw_1033, kv_37, rfl⟩⟩
theorem kh_161 : k_hd q_161.1 0 := ⟨by decide, by decide, by decide, by decide +kernel⟩
theorem kr_186 : k_cok (12, 186, 2, 12, 161, 0) := ⟨q_161, rfl, fun _ => kh_161, ⟨kw_1069, kw_1071, kv_45, rfl⟩⟩
theorem kh_216 : k_hd q_216.1 2 := ⟨by decide, by decide, by decide, by decide +kernel⟩
theorem kr_187 : k_cok (12, 189, 2, 12, 216, 2) := ⟨q_216, rfl, fun _ => kh_216, ⟨kw_1019, kw_1021, kv_34, rfl⟩⟩
theorem kh_163 : k_hd q_163.1 0 := ⟨by decide, by decide, by decide, by decide +kernel⟩
theorem kr_188 : k_cok (12, 193, 2, 12, 163, 0) := ⟨q_163, rfl, fun _ => kh_163, ⟨kw_1027, kw_1029, kv_36, rfl⟩⟩
theorem kh_217 : k_hd q_217.1 2 := ⟨by decide, by decide, by decide, by decide +kernel⟩
theorem kr_189 : k_cok (12, 196, 2, 12, 217, 2) := ⟨q_217, rfl, fun _ => kh_217, ⟨kw_1099, kw_1101, kv_51, rfl⟩⟩
theorem kh_167 : k_hd q_167.1 1 := ⟨by decide, by decide, by decide, by decide +kernel⟩
theorem kr_190 : k_cok (12, 199, 0, 0, 167, 1) := ⟨q_167, rfl, fun _ => kh_167, ⟨kw_1085, kw_1086⟩⟩
theorem kh_168 : k_hd q_168.1 1 := ⟨by decide, by decide, by decide, by decide +kernel⟩
theorem kr_191 : k_cok (12, 202, 2, 12, 168, 1) := ⟨q_168, rfl, fun _ => kh_168, ⟨kw_1081, kw_1083, kv_48, rfl⟩⟩
theorem kh_135 : k_hd q_135.1 2 := ⟨by decide, by decide, by decide, by decide +kernel⟩
theorem kr_192 : k_cok (12, 208, 0, 0, 135, 2) := ⟨q_135, rfl, fun _ => kh_135, ⟨kw_1134, kw_1135⟩⟩
theorem kh_165 : k_hd q_165.1 4 := ⟨by decide, by decide, by decide, by decide +kernel⟩
theorem kr_193 : k_cok (12, 211, 0, 0, 165, 4) := ⟨q_165, rfl, fun _ => kh_165, ⟨kw_1137, kw_1138⟩⟩
theorem kh_169 : k_hd q_169.1 2 := ⟨by decide, by decide, by decide, by decide +kernel⟩
theorem kr_194 : k_cok (12, 215, 2, 12, 169, 2) := ⟨q_169, rfl, fun _ => kh_169, ⟨kw_1130, kw_1132, kv_57, rfl⟩⟩
theorem kh_170 : k_hd q_170.1 2 := ⟨by decide, by decide, by decide, by decide +kernel⟩
theorem kr_195 : k_cok (12, 219, 2, 12, 170, 2) := ⟨q_170, rfl, fun _ => kh_170, ⟨kw_1126, kw_1128, kv_56, rfl⟩⟩
theorem kh_172 : k_hd q_172.1 2 := ⟨by decide, by decide, by decide, by decide +kernel⟩
theorem kr_196 : k_cok (12, 222, 2, 12, 172, 2) := ⟨q_172, rfl, fun _ => kh_172, ⟨kw_1023, kw_1025, kv_35, rfl⟩⟩
theorem kh_136 : k_hd q_136.1 2 := ⟨by decide, by decide, by decide, by decide +kernel⟩
theorem kr_197 : k_cok (12, 225, 0, 0, 136, 2) := ⟨q_136, rfl, fun _ => kh_136, ⟨kw_1088, kw_1089⟩⟩
theorem kh_142 : k_hd q_142.1 1 := ⟨by decide, by decide, by decide, by decide +kernel⟩
theorem kr_198 : k_cok (12, 228, 0, 0, 142, 1) := ⟨q_142, rfl, fun _ => kh_142, ⟨kw_1111, kw_1112⟩⟩
theorem kh_132 : k_hd q_132.1 0 := ⟨by decide, by decide, by decide, by decide +kernel⟩
theorem kr_199 : k_cok (12, 231, 2, 12, 132, 0) := ⟨q_132, rfl, fun _ => kh_132, ⟨kw_1114, kw_1116, kv_53, rfl⟩⟩
theorem kh_174 : k_hd q_174.1 0 := ⟨by decide, by decide, by decide, by decide +kernel⟩
theorem kr_200 : k_cok (12, 234, 2, 12, 174, 0) := ⟨q_174, rfl, fun _ => kh_174, ⟨kw_1118, kw_1120, kv_54, rfl⟩⟩
theorem kh_171 : k_hd q_171.1 1 := ⟨by decide, by decide, by decide, by decide +kernel⟩
theorem kr_201 : k_cok (12, 237, 2, 12, 171, 1) := ⟨q_171, rfl, fun _ => kh_171, ⟨kw_1122, kw_1124, kv_55, rfl⟩⟩
theorem kh_141 : k_hd q_141.1 1 := ⟨by decide, by decide, by decide, by decide +kernel⟩
theorem kr_202 : k_cok (12, 240, 2, 12, 141, 1) := ⟨q_141, rfl, fun _ => kh_141, ⟨kw_1144, kw_1146, kv_58, rfl⟩⟩
theorem kh_173 : k_hd q_173.1 2 := ⟨by decide, by decide, by decide, by decide +kernel⟩
theorem kr_203 : k_cok (12, 243, 2, 12, 173, 2) := ⟨q_173, rfl, fun _ => kh_173, ⟨kw_1103, kw_1105, kv_52, rfl⟩⟩
theorem kh_166 : k_hd q_166.1 1 := ⟨by decide, by decide, by decide, by decide +kernel⟩
theorem kr_204 : k_cok (12, 246, 2, 12, 166, 1) := ⟨q_166, rfl, fun _ => kh_166, ⟨kw_1164, kw_1166, kv_59, rfl⟩⟩
theorem kh_138 : k_hd q_138.1 1 := ⟨by decide, by decide, by decide, by decide +kernel⟩
theorem kr_205 : k_cok (12, 249, 0, 0, 138, 1) := ⟨q_138, rfl, fun _ => kh_138, ⟨kw_1184, kw_1185⟩⟩
theorem kh_137 : k_hd q_137.1 2 := ⟨by decide, by decide, by decide, by decide +kernel⟩
theorem kr_206 : k_cok (12, 252, 0, 0, 137, 2) := ⟨q_137, rfl, fun _ => kh_137, ⟨kw_1187, kw_1188⟩⟩
theorem kh_186 : k_hd q_186.1 1 := ⟨by decide, by decide, by decide, by decide +kernel⟩
theorem kr_207 : k_cok (12, 255, 2, 12, 186, 1) := ⟨q_186, rfl, fun _ => kh_186, ⟨kw_1194, kw_1196, kv_60, rfl⟩⟩
theorem kh_190 : k_hd q_190.1 1 := ⟨by decide, by decide, by decide, by decide +kernel⟩
theorem kr_208 : k_cok (12, 261, 2, 12, 190, 1) := ⟨q_190, rfl, fun _ => kh_190, ⟨kw_1223, kw_1225, kv_66, rfl⟩⟩
theorem kh_143 : k_hd q_143.1 1 := ⟨by decide, by decide, by decide, by decide +kernel⟩
theorem kr_209 : k_cok (12, 264, 2, 12, 143, 1) := ⟨q_143, rfl, fun _ => kh_143, ⟨kw_1202, kw_1204, kv_61, rfl⟩⟩
theorem kh_131 : k_hd q_131.1 0 := ⟨by decide, by decide, by decide, by decide +kernel⟩
theorem kr_210 : k_cok (12, 267, 2, 12, 131, 0) := ⟨q_131, rfl, fun _ => kh_131, ⟨kw_1206, kw_1208, kv_62, rfl⟩⟩
theorem kh_188 : k_hd q_188.1 0 := ⟨by decide, by decide, by decide, by decide +kernel⟩
theorem kr_211 : k_cok (12, 270, 2, 12, 188, 0) := ⟨q_188, rfl, fun _ => kh_188, ⟨kw_1210, kw_1212, kv_63, rfl⟩⟩
theorem kh_189 : k_hd q_189.1 3 := ⟨by decide, by decide, by decide, by decide +kernel⟩
theorem kr_212 : k_cok (12, 274, 2, 12, 189, 3) := ⟨q_189, rfl, fun _ => kh_189, ⟨kw_1215, kw_1217, kv_64, rfl⟩⟩
theorem kh_191 : k_hd q_191.1 2 := ⟨by decide, by decide, by decide, by decide +kernel⟩
theorem kr_213 : k_cok (12, 277, 2, 12, 191, 2) := ⟨q_191, rfl, fun _ => kh_191, ⟨kw_1219, kw_1221, kv_65, rfl⟩⟩
theorem kh_192 : k_hd q_192.1 1 := ⟨by decide, by decide, by decide, by decide +kernel⟩
theorem kr_214 : k_cok (12, 281, 2, 12, 192, 1) := ⟨q_192, rfl, fun _ => kh_192, ⟨kw_1227, kw_1229, kv_67, rfl⟩⟩
theorem kh_195 : k_hd q_195.1 1 := ⟨by decide, by decide, by decide, by decide +kernel⟩
theorem kr_215 : k_cok (12, 284, 2, 12, 195, 1) := ⟨q_195, rfl, fun _ => kh_195, ⟨kw_1239, kw_1241, kv_68, rfl⟩⟩
theorem kh_197 : k_hd q_197.1 3 := ⟨by decide, by decide, by decide, by decide +kernel⟩
theorem kr_216 : k_cok (12, 287, 2, 12, 197, 3) := ⟨q_197, rfl, fun _ => kh_197, ⟨kw_1247, kw_1249, kv_69, rfl⟩⟩
theorem kh_202 : k_hd q_202.1 1 := ⟨by decide, by decide, by decide, by decide +kernel⟩
theorem kr_217 : k_cok (12, 291, 2, 12, 202, 1) := ⟨q_202, rfl, fun _ => kh_202, ⟨kw_1267, kw_1269, kv_70, rfl⟩⟩
theorem kh_204 : k_hd q_204.1 4 := ⟨by decide, by decide, by decide, by decide +kernel⟩
theorem kr_218 : k_cok (12, 294, 0, 0, 204, 4) := ⟨q_204, rfl, fun _ => kh_204, ⟨kw_1275, kw_1276⟩⟩
theorem kh_206 : k_hd q_206.1 0 := ⟨by decide, by decide, by decide, by decide +kernel⟩
theorem kr_219 : k_cok (12, 297, 2, 12, 206, 0) := ⟨q_206, rfl, fun _ => kh_206, ⟨kw_1282, kw_1284, kv_71, rfl⟩⟩
theorem kh_208 : k_hd q_208.1 2 := ⟨by decide, by decide, by decide, by decide +kernel⟩
theorem kr_220 : k_cok (12, 300, 2, 12, 208, 2) := ⟨q_208, rfl, fun _ => kh_208, ⟨kw_1294, kw_1296, kv_73, rfl⟩⟩
theorem kh_209 : k_hd q_209.1 2 := ⟨by decide, by decide, by decide, by decide +kernel⟩
theorem kr_221 : k_cok (12, 303, 2, 12, 209, 2) := ⟨q_209, rfl, fun _ => kh_209, ⟨kw_1298, kw_1300, kv_74, rfl⟩⟩
theorem kh_210 : k_hd q_210.1 2 := ⟨by decide, by decide, by decide, by decide +kernel⟩
theorem kr_222 : k_cok (12, 306, 2, 12, 210, 2) := ⟨q_210, rfl, fun _ => kh_210, ⟨kw_1290, kw_1292, kv_72, rfl⟩⟩
theorem kh_212 : k_hd q_212.1 2 := ⟨by decide, by decide, by decide, by decide +kernel⟩
theorem kr_223 : k_cok (12, 314, 2, 12, 212, 2) := ⟨q_212, rfl, fun _ => kh_212, ⟨kw_1307, kw_1309, kv_75, rfl⟩⟩
theorem kh_222 : k_hd q_222.1 0 := ⟨by decide, by decide, by decide, by decide +kernel⟩
theorem kr_224 : k_cok (12, 329, 2, 12, 222, 0) := ⟨q_222, rfl, fun _ => kh_222, ⟨kw_1345, kw_1347, kv_77, rfl⟩⟩
theorem kh_221 : k_hd q_221.1 0 := ⟨by decide, by decide, by decide, by decide +kernel⟩
theorem kr_225 : k_cok (12, 332, 2, 12, 221, 0) := ⟨q_221, rfl, fun _ => kh_221, ⟨kw_1349, kw_1351, kv_78, rfl⟩⟩
theorem kh_223 : k_hd q_223.1 1 := ⟨by decide, by decide, by decide, by decide +kernel⟩
theorem kr_226 : k_cok (12, 335, 2, 12, 223, 1) := ⟨q_223, rfl, fun _ => kh_223, ⟨kw_1341, kw_1343, kv_76, rfl⟩⟩
theorem kh_225 : k_hd q_225.1 1 := ⟨by decide, by decide, by decide, by decide +kernel⟩
theorem kr_227 : k_cok (12, 345, 2, 12, 225, 1) := ⟨q_225, rfl, fun _ => kh_225, ⟨kw_1358, kw_1360, kv_79, rfl⟩⟩
theorem kh_70 : k_hd q_70.1 0 := ⟨by decide, by decide, by decide, by decide +kernel⟩
theorem kr_228 : k_cok (13, 9, 5, 11, 70, 0) := ⟨q_70, rfl, fun _ => kh_70, ⟨kw_23, kw_24, rfl⟩⟩
theorem kh_139 : k_hd q_139.1 0 := ⟨by decide, by decide, by decide, by decide +kernel⟩
theorem kr_229 : k_cok (13, 12, 5, 12, 139, 0) := ⟨q_139, rfl, fun _ => kh_139, ⟨kw_855, kw_856, rfl⟩⟩
theorem kh_71 : k_hd q_71.1 1 := ⟨by decide, by decide, by decide, by decide +kernel⟩
theorem kr_230 : k_cok (13, 13, 2, 11, 71, 1) := ⟨q_71, rfl, fun _ => kh_71, ⟨kw_281, kw_282, kw_283, rfl⟩⟩
theorem kh_144 : k_hd q_144.1 1 := ⟨by decide, by decide, by decide, by decide +kernel⟩
theorem kr_231 : k_cok (13, 17, 2, 12, 144, 1) := ⟨q_144, rfl, fun _ => kh_144, ⟨kw_984, kw_985, kw_986, rfl⟩⟩
theorem kh_72 : k_hd q_72.1 5 := ⟨by decide, by decide, by decide, by decide +kernel⟩
theorem kr_232 : k_cok (13, 18, 2, 11, 72, 5) := ⟨q_72, rfl, fun _ => kh_72, ⟨kw_300, kw_301, kw_302, rfl⟩⟩
theorem kh_146 : k_hd q_146.1 5 := ⟨by decide, by decide, by decide, by decide +kernel⟩
theorem kr_233 : k_cok (13, 22, 2, 12, 146, 5) := ⟨q_146, rfl, fun _ => kh_146, ⟨kw_995, kw_996, kw_997, rfl⟩⟩
theorem kh_73 : k_hd q_73.1 1 := ⟨by decide, by decide, by decide, by decide +kernel⟩
theorem kr_234 : k_cok (13, 23, 2, 11, 73, 1) := ⟨q_73, rfl, fun _ => kh_73, ⟨kw_338, kw_339, kw_340, rfl⟩⟩
theorem kh_147 : k_hd q_147.1 1 := ⟨by decide, by decide, by decide, by decide +kernel⟩
theorem kr_235 : k_cok (13, 26, 2, 12, 147, 1) := ⟨q_147, rfl, fun _ => kh_147, ⟨kw_1007, kw_1008, kw_1009, rfl⟩⟩
theorem kh_74 : k_hd q_74.1 0 := ⟨by decide, by decide, by decide, by decide +kernel⟩
theorem kr_236 : k_cok (13, 27, 2, 11, 74, 0) := ⟨q_74, rfl, fun _ => kh_74, ⟨kw_346, kw_347, kw_348, rfl⟩⟩
theorem kh_148 : k_hd q_148.1 0 := ⟨by decide, by decide, by decide, by decide +kernel⟩
theorem kr_237 : k_cok (13, 31, 2, 12, 148, 0) := ⟨q_148, rfl, fun _ => kh_148, ⟨kw_1011, kw_1012, kw_1013, rfl⟩⟩
theorem kh_75 : k_hd q_75.1 0 := ⟨by decide, by decide, by decide, by decide +kernel⟩
theorem kr_238 : k_cok (13, 32, 2, 11, 75, 0) := ⟨q_75, rfl, fun _ => kh_75, ⟨kw_350, kw_351, kw_352, rfl⟩⟩
theorem kh_164 : k_hd q_164.1 0 := ⟨by decide, by decide, by decide, by decide +kernel⟩
theorem kr_239 : k_cok (13, 35, 2, 12, 164, 0) := ⟨q_164, rfl, fun _ => kh_164, ⟨kw_1015, kw_1016, kw_1017, rfl⟩⟩
theorem kh_76 : k_hd q_76.1 1 := ⟨by decide, by decide, by decide, by decide +kernel⟩
theorem kr_240 : k_cok (13, 36, 2, 11, 76, 1) := ⟨q_76, rfl, fun _ => kh_76, ⟨kw_480, kw_481, kw_482, rfl⟩⟩
theorem kh_176 : k_hd q_176.1 1 := ⟨by decide, by decide, by decide, by decide +kernel⟩
theorem kr_241 : k_cok (13, 39, 2, 12, 176, 1) := ⟨q_176, rfl, fun _ => kh_176, ⟨kw_1107, kw_1108, kw_1109, rfl⟩⟩
theorem kh_77 : k_hd q_77.1 2 := ⟨by decide, by decide, by decide, by decide +kernel⟩
theorem kr_242 : k_cok (13, 40, 2, 11, 77, 2) := ⟨q_77, rfl, fun _ => kh_77, ⟨kw_541, kw_542, kw_543, rfl⟩⟩
theorem kh_177 : k_hd q_177.1 2 := ⟨by decide, by decide, by decide, by decide +kernel⟩
theorem kr_243 : k_cok (13, 44, 2, 12, 177, 2) := ⟨q_177, rfl, fun _ => kh_177, ⟨kw_1140, kw_1141, kw_1142, rfl⟩⟩
theorem kh_78 : k_hd q_78.1 1 := ⟨by decide, by decide, by decide, by decide +kernel⟩
theorem kr_244 : k_cok (13, 45, 2, 11, 78, 1) := ⟨q_78, rfl, fun _ => kh_78, ⟨kw_549, kw_550, kw_551, rfl⟩⟩
theorem kh_178 : k_hd q_178.1 1 := ⟨by decide, by decide, by decide, by decide +kernel⟩
theorem kr_245 : k_cok (13, 48, 2, 12, 178, 1) := ⟨q_178, rfl, fun _ => kh_178, ⟨kw_1148, kw_1149, kw_1150, rfl⟩⟩
theorem kh_79 : k_hd q_79.1 0 := ⟨by decide, by decide, by decide, by decide +kernel⟩
theorem kr_246 : k_cok (13, 49, 2, 11, 79, 0) := ⟨q_79, rfl, fun _ => kh_79, ⟨kw_566, kw_567, kw_568, rfl⟩⟩
theorem kh_179 : k_hd q_179.1 0 := ⟨by decide, by decide, by decide, by decide +kernel⟩
theorem kr_247 : k_cok (13, 52, 2, 12, 179, 0) := ⟨q_179, rfl, fun _ => kh_179, ⟨kw_1152, kw_1153, kw_1154, rfl⟩⟩
theorem kh_80 : k_hd q_80.1 2 := ⟨by decide, by decide, by decide, by decide +kernel⟩
theorem kr_248 : k_cok (13, 53, 2, 11, 80, 2) := ⟨q_80, rfl, fun _ => kh_80, ⟨kw_574, kw_575, kw_576, rfl⟩⟩
theorem kh_180 : k_hd q_180.1 2 := ⟨by decide, by decide, by decide, by decide +kernel⟩
theorem kr_249 : k_cok (13, 56, 2, 12, 180, 2) := ⟨q_180, rfl, fun _ => kh_180, ⟨kw_1156, kw_1157, kw_1158, rfl⟩⟩
theorem kh_81 : k_hd q_81.1 3 := ⟨by decide, by decide, by decide, by decide +kernel⟩
theorem kr_250 : k_cok (13, 57, 2, 11, 81, 3) := ⟨q_81, rfl, fun _ => kh_81, ⟨kw_579, kw_580, kw_581, rfl⟩⟩
theorem kh_181 : k_hd q_181.1 3 := ⟨by decide, by decide, by decide, by decide +kernel⟩
theorem kr_251 : k_cok (13, 61, 2, 12, 181, 3) := ⟨q_181, rfl, fun _ => kh_181, ⟨kw_1160, kw_1161, kw_1162, rfl⟩⟩
theorem kh_82 : k_hd q_82.1 2 := ⟨by decide, by decide, by decide, by decide +kernel⟩
theorem kr_252 : k_cok (13, 62, 2, 11, 82, 2) := ⟨q_82, rfl, fun _ => kh_82, ⟨kw_610, kw_611, kw_612, rfl⟩⟩
theorem kh_182 : k_hd q_182.1 2 := ⟨by decide, by decide, by decide, by decide +kernel⟩
theorem kr_253 : k_cok (13, 65, 2, 12, 182, 2) := ⟨q_182, rfl, fun _ => kh_182, ⟨kw_1168, kw_1169, kw_1170, rfl⟩⟩
theorem kh_83 : k_hd q_83.1 1 := ⟨by decide, by decide, by decide, by decide +kernel⟩
theorem kr_254 : k_cok (13, 66, 2, 11, 83, 1) := ⟨q_83, rfl, fun _ => kh_83, ⟨kw_615, kw_616, kw_617, rfl⟩⟩
theorem kh_183 : k_hd q_183.1 1 := ⟨by decide, by decide, by decide, by decide +kernel⟩
theorem kr_255 : k_cok (13, 69, 2, 12, 183, 1) := ⟨q_183, rfl, fun _ => kh_183, ⟨kw_1172, kw_1173, kw_1174, rfl⟩⟩
theorem kh_84 : k_hd q_84.1 1 := ⟨by decide, by decide, by decide, by decide +kernel⟩
theorem kr_256 : k_cok (13, 70, 2, 11, 84, 1) := ⟨q_84, rfl, fun _ => kh_84, ⟨kw_619, kw_620, kw_621, rfl⟩⟩
theorem kh_184 : k_hd q_184.1 1 := ⟨by decide, by decide, by decide, by decide +kernel⟩
theorem kr_257 : k_cok (13, 73, 2, 12, 184, 1) := ⟨q_184, rfl, fun _ => kh_184, ⟨kw_1176, kw_1177, kw_1178, rfl⟩⟩
theorem kh_85 : k_hd q_85.1 1 := ⟨by decide, by decide, by decide, by decide +kernel⟩
theorem kr_258 : k_cok (13, 74, 2, 11, 85, 1) := ⟨q_85, rfl, fun _ => kh_85, ⟨kw_628, kw_629, kw_630, rfl⟩⟩
theorem kh_185 : k_hd q_185.1 1 := ⟨by decide, by decide, by decide, by decide +kernel⟩
theorem kr_259 : k_cok (13, 77, 2, 12, 185, 1) := ⟨q_185, rfl, fun _ => kh_185, ⟨kw_1180, kw_1181, kw_1182, rfl⟩⟩
theorem kh_86 : k_hd q_86.1 1 := ⟨by decide, by decide, by decide, by decide +kernel⟩
theorem kr_260 : k_cok (13, 78, 2, 11, 86, 1) := ⟨q_86, rfl, fun _ => kh_86, ⟨kw_637, kw_638, kw_639, rfl⟩⟩
theorem kh_187 : k_hd q_187.1 1 := ⟨by decide, by decide, by decide, by decide +kernel⟩
theorem kr_261 : k_cok (13, 81, 2, 12, 187, 1) := ⟨q_187, rfl, fun _ => kh_187, ⟨kw_1190, kw_1191, kw_1192, rfl⟩⟩
theorem kh_87 : k_hd q_87.1 2 := ⟨by decide, by decide, by decide, by decide +kernel⟩
theorem kr_262 : k_cok (13, 82, 2, 11, 87, 2) := ⟨q_87, rfl, fun _ => kh_87, ⟨kw_657, kw_658, kw_659, rfl⟩⟩
theorem kh_193 : k_hd q_193.1 2 := ⟨by decide, by decide, by decide, by decide +kernel⟩
theorem kr_263 : k_cok (13, 85, 2, 12, 193, 2) := ⟨q_193, rfl, fun _ => kh_193, ⟨kw_1198, kw_1199, kw_1200, rfl⟩⟩
theorem kh_88 : k_hd q_88.1 3 := ⟨by decide, by decide, by decide, by decide +kernel⟩
theorem kr_264 : k_cok (13, 86, 2, 11, 88, 3) := ⟨q_88, rfl, fun _ => kh_88, ⟨kw_685, kw_686, kw_687, rfl⟩⟩
theorem kh_194 : k_hd q_194.1 3 := ⟨by decide, by decide, by decide, by decide +kernel⟩
theorem kr_265 : k_cok (13, 89, 2, 12, 194, 3) := ⟨q_194, rfl, fun _ => kh_194, ⟨kw_1231, kw_1232, kw_1233, rfl⟩⟩
theorem kh_89 : k_hd q_89.1 0 := ⟨by decide, by decide, by decide, by decide +kernel⟩
theorem kr_266 : k_cok (13, 90, 2, 11, 89, 0) := ⟨q_89, rfl, fun _ => kh_89, ⟨kw_689, kw_690, kw_691, rfl⟩⟩
theorem kh_196 : k_hd q_196.1 0 := ⟨by decide, by decide, by decide, by decide +kernel⟩
theorem kr_267 : k_cok (13, 93, 2, 12, 196, 0) := ⟨q_196, rfl, fun _ => kh_196, ⟨kw_1235, kw_1236, kw_1237, rfl⟩⟩
theorem kh_90 : k_hd q_90.1 2 := ⟨by decide, by decide, by decide, by decide +kernel⟩
theorem kr_268 : k_cok (13, 94, 2, 11, 90, 2) := ⟨q_90, rfl, fun _ => kh_90, ⟨kw_697, kw_698, kw_699, rfl⟩⟩
theorem kh_198 : k_hd q_198.1 2 := ⟨by decide, by decide, by decide, by decide +kernel⟩
theorem kr_269 : k_cok (13, 97, 2, 12, 198, 2) := ⟨q_198, rfl, fun _ => kh_198, ⟨kw_1243, kw_1244, kw_1245, rfl⟩⟩
theorem kh_91 : k_hd q_91.1 5 := ⟨by decide, by decide, by decide, by decide +kernel⟩
theorem kr_270 : k_cok (13, 98, 2, 11, 91, 5) := ⟨q_91, rfl, fun _ => kh_91, ⟨kw_706, kw_707, kw_708, rfl⟩⟩
theorem kh_199 : k_hd q_199.1 5 := ⟨by decide, by decide, by decide, by decide +kernel⟩
theorem kr_271 : k_cok (13, 101, 2, 12, 199, 5) := ⟨q_199, rfl, fun _ => kh_199, ⟨kw_1251, kw_1252, kw_1253, rfl⟩⟩
theorem kh_92 : k_hd q_92.1 2 := ⟨by decide, by decide, by decide, by decide +kernel⟩
theorem kr_272 : k_cok (13, 102, 2, 11, 92, 2) := ⟨q_92, rfl, fun _ => kh_92, ⟨kw_710, kw_711, kw_712, rfl⟩⟩
theorem kh_200 : k_hd q_200.1 2 := ⟨by decide, by decide, by decide, by decide +kernel⟩
theorem kr_273 : k_cok (13, 105, 2, 12, 200, 2) := ⟨q_200, rfl, fun _ => kh_200, ⟨kw_1255, kw_1256, kw_1257, rfl⟩⟩
theorem kh_93 : k_hd q_93.1 1 := ⟨by decide, by decide, by decide, by decide +kernel⟩
theorem kr_274 : k_cok (13, 106, 2, 11, 93, 1) := ⟨q_93, rfl, fun _ => kh_93, ⟨kw_714, kw_715, kw_716, rfl⟩⟩
theorem kh_201 : k_hd q_201.1 1 := ⟨by decide, by decide, by decide, by decide +kernel⟩
theorem kr_275 : k_cok (13, 109, 2, 12, 201, 1) := ⟨q_201, rfl, fun _ => kh_201, ⟨kw_1259, kw_1260, kw_1261, rfl⟩⟩
theorem kh_94 : k_hd q_94.1 1 := ⟨by decide, by decide, by decide, by decide +kernel⟩
theorem kr_276 : k_cok (13, 110, 2, 11, 94, 1) := ⟨q_94, rfl, fun _ => kh_94, ⟨kw_718, kw_719, kw_720, rfl⟩⟩
theorem kh_203 : k_hd q_203.1 1 := ⟨by decide, by decide, by decide, by decide +kernel⟩
theorem kr_277 : k_cok (13, 113, 2, 12, 203, 1) := ⟨q_203, rfl, fun _ => kh_203, ⟨kw_1263, kw_1264, kw_1265, rfl⟩⟩
theorem kh_95 : k_hd q_95.1 1 := ⟨by decide, by decide, by decide, by decide +kernel⟩
theorem kr_278 : k_cok (13, 114, 2, 11, 95, 1) := ⟨q_95, rfl, fun _ => kh_95, ⟨kw_731, kw_732, kw_733, rfl⟩⟩
theorem kh_205 : k_hd q_205.1 1 := ⟨by decide, by decide, by decide, by decide +kernel⟩
theorem kr_279 : k_cok (13, 117, 2, 12, 205, 1) := ⟨q_205, rfl, fun _ => kh_205, ⟨kw_1271, kw_1272, kw_1273, rfl⟩⟩
theorem kh_96 : k_hd q_96.1 2 := ⟨by decide, by decide, by decide, by decide +kernel⟩
theorem kr_280 : k_cok (13, 118, 2, 11, 96, 2) := ⟨q_96, rfl, fun _ => kh_96, ⟨kw_743, kw_744, kw_745, rfl⟩⟩
theorem kh_207 : k_hd q_207.1 2 := ⟨by decide, by decide, by decide, by decide +kernel⟩
theorem kr_281 : k_cok (13, 121, 2, 12, 207, 2) := ⟨q_207, rfl, fun _ => kh_207, ⟨kw_1278, kw_1279, kw_1280, rfl⟩⟩
theorem kh_97 : k_hd q_97.1 1 := ⟨by decide, by decide, by decide, by decide +kernel⟩
theorem kr_282 : k_cok (13, 122, 2, 11, 97, 1) := ⟨q_97, rfl, fun _ => kh_97, ⟨kw_751, kw_752, kw_753, rfl⟩⟩
theorem kh_211 : k_hd q_211.1 1 := ⟨by decide, by decide, by decide, by decide +kernel⟩
theorem kr_283 : k_cok (13, 125, 2, 12, 211, 1) := ⟨q_211, rfl, fun _ => kh_211, ⟨kw_1286, kw_1287, kw_1288, rfl⟩⟩
theorem kh_98 : k_hd q_98.1 2 := ⟨by decide, by decide, by decide, by decide +kernel⟩
theorem kr_284 : k_cok (13, 126, 2, 11, 98, 2) := ⟨q_98, rfl, fun _ => kh_98, ⟨kw_771, kw_772, kw_773, rfl⟩⟩
theorem kh_213 : k_hd q_213.1 2 := ⟨by decide, by decide, by decide, by decide +kernel⟩
theorem kr_285 : k_cok (13, 129, 2, 12, 213, 2) := ⟨q_213, rfl, fun _ => kh_213, ⟨kw_1302, kw_1303, kw_1304, rfl⟩⟩
theorem kh_99 : k_hd q_99.1 2 := ⟨by decide, by decide, by decide, by decide +kernel⟩
theorem kr_286 : k_cok (13, 130, 2, 11, 99, 2) := ⟨q_99, rfl, fun _ => kh_99, ⟨kw_790, kw_791, kw_792, rfl⟩⟩
theorem kh_214 : k_hd q_214.1 2 := ⟨by decide, by decide, by decide, by decide +kernel⟩
theorem kr_287 : k_cok (13, 133, 2, 12, 214, 2) := ⟨q_214, rfl, fun _ => kh_214, ⟨kw_1311, kw_1312, kw_1313, rfl⟩⟩
theorem kh_100 : k_hd q_100.1 1 := ⟨by decide, by decide, by decide, by decide +kernel⟩
theorem kr_288 : k_cok (13, 134, 2, 11, 100, 1) := ⟨q_100, rfl, fun _ => kh_100, ⟨kw_800, kw_801, kw_802, rfl⟩⟩
theorem kh_215 : k_hd q_215.1 1 := ⟨by decide, by decide, by decide, by decide +kernel⟩
theorem kr_289 : k_cok (13, 138, 2, 12, 215, 1) := ⟨q_215, rfl, fun _ => kh_215, ⟨kw_1321, kw_1322, kw_1323, rfl⟩⟩
theorem kh_101 : k_hd q_101.1 1 := ⟨by decide, by decide, by decide, by decide +kernel⟩
theorem kr_290 : k_cok (13, 139, 2, 11, 101, 1) := ⟨q_101, rfl, fun _ => kh_101, ⟨kw_804, kw_805, kw_806, rfl⟩⟩
theorem kh_218 : k_hd q_218.1 1 := ⟨by decide, by decide, by decide, by decide +kernel⟩
theorem kr_291 : k_cok (13, 142, 2, 12, 218, 1) := ⟨q_218, rfl, fun _ => kh_218, ⟨kw_1325, kw_1326, kw_1327, rfl⟩⟩
theorem kh_102 : k_hd q_102.1 1 := ⟨by decide, by decide, by decide, by decide +kernel⟩
theorem kr_292 : k_cok (13, 143, 2, 11, 102, 1) := ⟨q_102, rfl, fun _ => kh_102, ⟨kw_815, kw_816, kw_817, rfl⟩⟩
theorem kh_219 : k_hd q_219.1 1 := ⟨by decide, by decide, by decide, by decide +kernel⟩
theorem kr_293 : k_cok (13, 146, 2, 12, 219, 1) := ⟨q_219, rfl, fun _ => kh_219, ⟨kw_1329, kw_1330, kw_1331, rfl⟩⟩
theorem kh_103 : k_hd q_103.1 1 := ⟨by decide, by decide, by decide, by decide +kernel⟩
theorem kr_294 : k_cok (13, 147, 2, 11, 103, 1) := ⟨q_103, rfl, fun _ => kh_103, ⟨kw_819, kw_820, kw_821, rfl⟩⟩
theorem kh_220 : k_hd q_220.1 1 := ⟨by decide, by decide, by decide, by decide +kernel⟩
theorem kr_295 : k_cok (13, 150, 2, 12, 220, 1) := ⟨q_220, rfl, fun _ => kh_220, ⟨kw_1333, kw_1334, kw_1335, rfl⟩⟩
theorem kr_296 : k_cok (13, 151, 2, 11, 104, 1) := ⟨q_104, rfl, fun _ => kh_104, ⟨kw_823, kw_824, kw_825, rfl⟩⟩
theorem kh_224 : k_hd q_224.1 1 := ⟨by decide, by decide, by decide, by decide +kernel⟩
theorem kr_297 : k_cok (13, 154, 2, 12, 224, 1) := ⟨q_224, rfl, fun _ => kh_224, ⟨kw_1337, kw_1338, kw_1339, rfl⟩⟩
theorem kh_105 : k_hd q_105.1 0 := ⟨by decide, by decide, by decide, by decide +kernel⟩
theorem kr_298 : k_cok (13, 155, 2, 11, 105, 0) := ⟨q_105, rfl, fun _ => kh_105, ⟨kw_831, kw_832, kw_833, rfl⟩⟩
theorem kh_226 : k_hd q_226.1 0 := ⟨by decide, by decide, by decide, by decide +kernel⟩
theorem kr_299 : k_cok (13, 159, 2, 12, 226, 0) := ⟨q_226, rfl, fun _ => kh_226, ⟨kw_1353, kw_1354, kw_1355, rfl⟩⟩
theorem kr_300 : k_cok (4, 53, 8, 0, 0, 5) := ⟨q_0, rfl, fun h => absurd h (by decide), kw_812⟩
theorem kr_301 : k_cok (2, 3, 9, 0, 0, 0) := ⟨q_0, rfl, fun h => absurd h (by decide), kw_134⟩
theorem kr_302 : k_cok (3, 1, 9, 0, 0, 0) := ⟨q_0, rfl, fun h => absurd h (by decide), kw_141⟩
theorem kr_303 : k_cok (4, 3, 9, 0, 0, 0) := ⟨q_0, rfl, fun h => absurd h (by decide), kw_125⟩
theorem kr_304 : k_cok (7, 3, 9, 0, 0, 0) := ⟨q_0, rfl, fun h => absurd h (by decide), kw_36⟩
theorem kr_305 : k_cok (8, 3, 9, 0, 0, 0) := ⟨q_0, rfl, fun h => absurd h (by decide), kw_84⟩
theorem kr_306 : k_cok (9, 3, 9, 0, 0, 0) := ⟨q_0, rfl, fun h => absurd h (by decide), kw_67⟩
theorem kr_307 : k_cok (11, 1, 9, 0, 0, 0) := ⟨q_0, rfl, fun h => absurd h (by decide), kw_26⟩
theorem kr_308 : k_cok (12, 7, 9, 0, 0, 0) := ⟨q_0, rfl, fun h => absurd h (by decide), kw_858⟩
theorem kr_309 : k_cok (2, 74, 12, 0, 0, 0) := ⟨q_0, rfl, fun h => absurd h (by decide), kw_457⟩
theorem kr_310 : k_cok (2, 83, 11, 0, 0, 0) := ⟨q_0, rfl, fun h => absurd h (by decide), kw_464⟩
theorem kr_311 : k_cok (2, 117, 10, 0, 0, 0) := ⟨q_0, rfl, fun h => absurd h (by decide), kw_654⟩
theorem kr_312 : k_cok (9, 19, 10, 0, 0, 0) := ⟨q_0, rfl, fun h => absurd h (by decide), kw_673⟩
theorem kr_313 : k_cok (9, 29, 11, 0, 0, 0) := ⟨q_0, rfl, fun h => absurd h (by decide), kw_679⟩
theorem kr_314 : k_cok (11, 337, 11, 0, 0, 0) := ⟨q_0, rfl, fun h => absurd h (by decide), kw_704⟩
theorem kr_315 : k_cok (11, 342, 10, 0, 0, 0) := ⟨q_0, rfl, fun h => absurd h (by decide), kw_705⟩
theorem k_cs_ok : ∀ r ∈ k_cs, k_cok r := by
  unfold k_cs
  refine List.forall_mem_cons.mpr ⟨kr_0, ?_⟩
  refine List.forall_mem_cons.mpr ⟨kr_1, ?_⟩
  refine List.forall_mem_cons.mpr ⟨kr_2, ?_⟩
  refine List.forall_mem_cons.mpr ⟨kr_3, ?_⟩
  refine List.forall_mem_cons.mpr ⟨kr_4, ?_⟩
  refine List.forall_mem_cons.mpr ⟨kr_5, ?_⟩
  refine List.forall_mem_cons.mpr ⟨kr_6, ?_⟩
  refine List.forall_mem_cons.mpr ⟨kr_7, ?_⟩
  refine List.forall_mem_cons.mpr ⟨kr_8, ?_⟩
  refine List.forall_mem_cons.mpr ⟨kr_9, ?_⟩
  refine List.forall_mem_cons.mpr ⟨kr_10, ?_⟩
  refine List.forall_mem_cons.mpr ⟨kr_11, ?_⟩
  refine List.forall_mem_cons.mpr ⟨kr_12, ?_⟩
  refine List.forall_mem_cons.mpr ⟨kr_13, ?_⟩
  refine List.forall_mem_cons.mpr ⟨kr_14, ?_⟩
  refine List.forall_mem_cons.mpr ⟨kr_15, ?_⟩
  refine List.forall_mem_cons.mpr ⟨kr_16, ?_⟩
  refine List.forall_mem_cons.mpr ⟨kr_17, ?_⟩
  refine List.forall_mem_cons.mpr ⟨kr_18, ?_⟩
  refine List.forall_mem_cons.mpr ⟨kr_19, ?_⟩
  refine List.forall_mem_cons.mpr ⟨kr_20, ?_⟩
  refine List.forall_mem_cons.mpr ⟨kr_21, ?_⟩
  refine List.forall_mem_cons.mpr ⟨kr_22, ?_⟩
  refine List.forall_mem_cons.mpr ⟨kr_23, ?_⟩
  refine List.forall_mem_cons.mpr ⟨kr_24, ?_⟩
  refine List.forall_mem_cons.mpr ⟨kr_25, ?_⟩
  refine List.forall_mem_cons.mpr ⟨kr_26, ?_⟩
  refine List.forall_mem_cons.mpr ⟨kr_27, ?_⟩
  refine List.forall_mem_cons.mpr ⟨kr_28, ?_⟩
  refine List.forall_mem_cons.mpr ⟨kr_29, ?_⟩
  refine List.forall_mem_cons.mpr ⟨kr_30, ?_⟩
  refine List.forall_mem_cons.mpr ⟨kr_31, ?_⟩
  refine List.forall_mem_cons.mpr ⟨kr_32, ?_⟩
  refine List.forall_mem_cons.mpr ⟨kr_33, ?_⟩
  refine List.forall_mem_cons.mpr ⟨kr_34, ?_⟩
  refine List.forall_mem_cons.mpr ⟨kr_35, ?_⟩
  refine List.forall_mem_cons.mpr ⟨kr_36, ?_⟩
  refine List.forall_mem_cons.mpr ⟨kr_37, ?_⟩
  refine List.forall_mem_cons.mpr ⟨kr_38, ?_⟩
  refine List.forall_mem_cons.mpr ⟨kr_39, ?_⟩
  refine List.forall_mem_cons.mpr ⟨kr_40, ?_⟩
  refine List.forall_mem_cons.mpr ⟨kr_41, ?_⟩
  refine List.forall_mem_cons.mpr ⟨kr_42, ?_⟩
  refine List.forall_mem_cons.mpr ⟨kr_43, ?_⟩
  refine List.forall_mem_cons.mpr ⟨kr_44, ?_⟩
  refine List.forall_mem_cons.mpr ⟨kr_45, ?_⟩
  refine List.forall_mem_cons.mpr ⟨kr_46, ?_⟩
  refine List.forall_mem_cons.mpr ⟨kr_47, ?_⟩
  refine List.forall_mem_cons.mpr ⟨kr_48, ?_⟩
  refine List.forall_mem_cons.mpr ⟨kr_49, ?_⟩
  refine List.forall_mem_cons.mpr ⟨kr_50, ?_⟩
  refine List.forall_mem_cons.mpr ⟨kr_51, ?_⟩
  refine List.forall_mem_cons.mpr ⟨kr_52, ?_⟩
  refine List.forall_mem_cons.mpr ⟨kr_53, ?_⟩
  refine List.forall_mem_cons.mpr ⟨kr_54, ?_⟩
  refine List.forall_mem_cons.mpr ⟨kr_55, ?_⟩
  refine List.forall_mem_cons.mpr ⟨kr_56, ?_⟩
  refine List.forall_mem_cons.mpr ⟨kr_57, ?_⟩
  refine List.forall_mem_cons.mpr ⟨kr_58, ?_⟩
  refine List.forall_mem_cons.mpr ⟨kr_59, ?_⟩
  refine List.forall_mem_cons.mpr ⟨kr_60, ?_⟩
  refine List.forall_mem_cons.mpr ⟨kr_61, ?_⟩
  refine List.forall_mem_cons.mpr ⟨kr_62, ?_⟩
  refine List.forall_mem_cons.mpr ⟨kr_63, ?_⟩
  refine List.forall_mem_cons.mpr ⟨kr_64, ?_⟩
  refine List.forall_mem_cons.mpr ⟨kr_65, ?_⟩
  refine List.forall_mem_cons.mpr ⟨kr_66, ?_⟩
  refine List.forall_mem_cons.mpr ⟨kr_67, ?_⟩
  refine List.forall_mem_cons.mpr ⟨kr_68, ?_⟩
  refine List.forall_mem_cons.mpr ⟨kr_69, ?_⟩
  refine List.forall_mem_cons.mpr ⟨kr_70, ?_⟩
  refine List.forall_mem_cons.mpr ⟨kr_71, ?_⟩
  refine List.forall_mem_cons.mpr ⟨kr_72, ?_⟩
  refine List.forall_mem_cons.mpr ⟨kr_73, ?_⟩
  refine List.forall_mem_cons.mpr ⟨kr_74, ?_⟩
  refine List.forall_mem_cons.mpr ⟨kr_75, ?_⟩
  refine List.forall_mem_cons.mpr ⟨kr_76, ?_⟩
  refine List.forall_mem_cons.mpr ⟨kr_77, ?_⟩
  refine List.forall_mem_cons.mpr ⟨kr_78, ?_⟩
  refine List.forall_mem_cons.mpr ⟨kr_79, ?_⟩
  refine List.forall_mem_cons.mpr ⟨kr_80, ?_⟩
  refine List.forall_mem_cons.mpr ⟨kr_81, ?_⟩
  refine List.forall_mem_cons.mpr ⟨kr_82, ?_⟩
  refine List.forall_mem_cons.mpr ⟨kr_83, ?_⟩
  refine List.forall_mem_cons.mpr ⟨kr_84, ?_⟩
  refine List.forall_mem_cons.mpr ⟨kr_85, ?_⟩
  refine List.forall_mem_cons.mpr ⟨kr_86, ?_⟩
  refine List.forall_mem_cons.mpr ⟨kr_87, ?_⟩
  refine List.forall_mem_cons.mpr ⟨kr_88, ?_⟩
  refine List.forall_mem_cons.mpr ⟨kr_89, ?_⟩
  refine List.forall_mem_cons.mpr ⟨kr_90, ?_⟩
  refine List.forall_mem_cons.mpr ⟨kr_91, ?_⟩
  refine List.forall_mem_cons.mpr ⟨kr_92, ?_⟩
  refine List.forall_mem_cons.mpr ⟨kr_93, ?_⟩
  refine List.forall_mem_cons.mpr ⟨kr_94, ?_⟩
  refine List.forall_mem_cons.mpr ⟨kr_95, ?_⟩
  refine List.forall_mem_cons.mpr ⟨kr_96, ?_⟩
  refine List.forall_mem_cons.mpr ⟨kr_97, ?_⟩
  refine List.forall_mem_cons.mpr ⟨kr_98, ?_⟩
  refine List.forall_mem_cons.mpr ⟨kr_99, ?_⟩
  refine List.forall_mem_cons.mpr ⟨kr_100, ?_⟩
  refine List.forall_mem_cons.mpr ⟨kr_101, ?_⟩
  refine List.forall_mem_cons.mpr ⟨kr_102, ?_⟩
  refine List.forall_mem_cons.mpr ⟨kr_103, ?_⟩
  refine List.forall_mem_cons.mpr ⟨kr_104, ?_⟩
  refine List.forall_mem_cons.mpr ⟨kr_105, ?_⟩
  refine List.forall_mem_cons.mpr ⟨kr_106, ?_⟩
  refine List.forall_mem_cons.mpr ⟨kr_107, ?_⟩
  refine List.forall_mem_cons.mpr ⟨kr_108, ?_⟩
  refine List.forall_mem_cons.mpr ⟨kr_109, ?_⟩
  refine List.forall_mem_cons.mpr ⟨kr_110, ?_⟩
  refine List.forall_mem_cons.mpr ⟨kr_111, ?_⟩
  refine List.forall_mem_cons.mpr ⟨kr_112, ?_⟩
  refine List.forall_mem_cons.mpr ⟨kr_113, ?_⟩
  refine List.forall_mem_cons.mpr ⟨kr_114, ?_⟩
  refine List.forall_mem_cons.mpr ⟨kr_115, ?_⟩
  refine List.forall_mem_cons.mpr ⟨kr_116, ?_⟩
  refine List.forall_mem_cons.mpr ⟨kr_117, ?_⟩
  refine List.forall_mem_cons.mpr ⟨kr_118, ?_⟩
  refine List.forall_mem_cons.mpr ⟨kr_119, ?_⟩
  refine List.forall_mem_cons.mpr ⟨kr_120, ?_⟩
  refine List.forall_mem_cons.mpr ⟨kr_121, ?_⟩
  refine List.forall_mem_cons.mpr ⟨kr_122, ?_⟩
  refine List.forall_mem_cons.mpr ⟨kr_123, ?_⟩
  refine List.forall_mem_cons.mpr ⟨kr_124, ?_⟩
  refine List.forall_mem_cons.mpr ⟨kr_125, ?_⟩
  refine List.forall_mem_cons.mpr ⟨kr_126, ?_⟩
  refine List.forall_mem_cons.mpr ⟨kr_127, ?_⟩
  refine List.forall_mem_cons.mpr ⟨kr_128, ?_⟩
  refine List.forall_mem_cons.mpr ⟨kr_129, ?_⟩
  refine List.forall_mem_cons.mpr ⟨kr_130, ?_⟩
  refine List.forall_mem_cons.mpr ⟨kr_131, ?_⟩
  refine List.forall_mem_cons.mpr ⟨kr_132, ?_⟩
  refine List.forall_mem_cons.mpr ⟨kr_133, ?_⟩
  refine List.forall_mem_cons.mpr ⟨kr_134, ?_⟩
  refine List.forall_mem_cons.mpr ⟨kr_135, ?_⟩
  refine List.forall_mem_cons.mpr ⟨kr_136, ?_⟩
  refine List.forall_mem_cons.mpr ⟨kr_137, ?_⟩
  refine List.forall_mem_cons.mpr ⟨kr_138, ?_⟩
  refine List.forall_mem_cons.mpr ⟨kr_139, ?_⟩
  refine List.forall_mem_cons.mpr ⟨kr_140, ?_⟩
  refine List.forall_mem_cons.mpr ⟨kr_141, ?_⟩
  refine List.forall_mem_cons.mpr ⟨kr_142, ?_⟩
  refine List.forall_mem_cons.mpr ⟨kr_143, ?_⟩
  refine List.forall_mem_cons.mpr ⟨kr_144, ?_⟩
  refine List.forall_mem_cons.mpr ⟨kr_145, ?_⟩
  refine List.forall_mem_cons.mpr ⟨kr_146, ?_⟩
  refine List.forall_mem_cons.mpr ⟨kr_147, ?_⟩
  refine List.forall_mem_cons.mpr ⟨kr_148, ?_⟩
  refine List.forall_mem_cons.mpr ⟨kr_149, ?_⟩
  refine List.forall_mem_cons.mpr ⟨kr_150, ?_⟩
  refine List.forall_mem_cons.mpr ⟨kr_151, ?_⟩
  refine List.forall_mem_cons.mpr ⟨kr_152, ?_⟩
  refine List.forall_mem_cons.mpr ⟨kr_153, ?_⟩
  refine List.forall_mem_cons.mpr ⟨kr_154, ?_⟩
  refine List.forall_mem_cons.mpr ⟨kr_155, ?_⟩
  refine List.forall_mem_cons.mpr ⟨kr_156, ?_⟩
  refine List.forall_mem_cons.mpr ⟨kr_157, ?_⟩
  refine List.forall_mem_cons.mpr ⟨kr_158, ?_⟩
  refine List.forall_mem_cons.mpr ⟨kr_159, ?_⟩
  refine List.forall_mem_cons.mpr ⟨kr_160, ?_⟩
  refine List.forall_mem_cons.mpr ⟨kr_161, ?_⟩
  refine List.forall_mem_cons.mpr ⟨kr_162, ?_⟩
  refine List.forall_mem_cons.mpr ⟨kr_163, ?_⟩
  refine List.forall_mem_cons.mpr ⟨kr_164, ?_⟩
  refine List.forall_mem_cons.mpr ⟨kr_165, ?_⟩
  refine List.forall_mem_cons.mpr ⟨kr_166, ?_⟩
  refine List.forall_mem_cons.mpr ⟨kr_167, ?_⟩
  refine List.forall_mem_cons.mpr ⟨kr_168, ?_⟩
  refine List.forall_mem_cons.mpr ⟨kr_169, ?_⟩
  refine List.forall_mem_cons.mpr ⟨kr_170, ?_⟩
  refine List.forall_mem_cons.mpr ⟨kr_171, ?_⟩
  refine List.forall_mem_cons.mpr ⟨kr_172, ?_⟩
  refine List.forall_mem_cons.mpr ⟨kr_173, ?_⟩
  refine List.forall_mem_cons.mpr ⟨kr_174, ?_⟩
  refine List.forall_mem_cons.mpr ⟨kr_175, ?_⟩
  refine List.forall_mem_cons.mpr ⟨kr_176, ?_⟩
  refine List.forall_mem_cons.mpr ⟨kr_177, ?_⟩
  refine List.forall_mem_cons.mpr ⟨kr_178, ?_⟩
  refine List.forall_mem_cons.mpr ⟨kr_179, ?_⟩
  refine List.forall_mem_cons.mpr ⟨kr_180, ?_⟩
  refine List.forall_mem_cons.mpr ⟨kr_181, ?_⟩
  refine List.forall_mem_cons.mpr ⟨kr_182, ?_⟩
  refine List.forall_mem_cons.mpr ⟨kr_183, ?_⟩
  refine List.forall_mem_cons.mpr ⟨kr_184, ?_⟩
  refine List.forall_mem_cons.mpr ⟨kr_185, ?_⟩
  refine List.forall_mem_cons.mpr ⟨kr_186, ?_⟩
  refine List.forall_mem_cons.mpr ⟨kr_187, ?_⟩
  refine List.forall_mem_cons.mpr ⟨kr_188, ?_⟩
  refine List.forall_mem_cons.mpr ⟨kr_189, ?_⟩
  refine List.forall_mem_cons.mpr ⟨kr_190, ?_⟩
  refine List.forall_mem_cons.mpr ⟨kr_191, ?_⟩
  refine List.forall_mem_cons.mpr ⟨kr_192, ?_⟩
  refine List.forall_mem_cons.mpr ⟨kr_193, ?_⟩
  refine List.forall_mem_cons.mpr ⟨kr_194, ?_⟩
  refine List.forall_mem_cons.mpr ⟨kr_195, ?_⟩
  refine List.forall_mem_cons.mpr ⟨kr_196, ?_⟩
  refine List.forall_mem_cons.mpr ⟨kr_197, ?_⟩
  refine List.forall_mem_cons.mpr ⟨kr_198, ?_⟩
  refine List.forall_mem_cons.mpr ⟨kr_199, ?_⟩
  refine List.forall_mem_cons.mpr ⟨kr_200, ?_⟩
  refine List.forall_mem_cons.mpr ⟨kr_201, ?_⟩
  refine List.forall_mem_cons.mpr ⟨kr_202, ?_⟩
  refine List.forall_mem_cons.mpr ⟨kr_203, ?_⟩
  refine List.forall_mem_cons.mpr ⟨kr_204, ?_⟩
  refine List.forall_mem_cons.mpr ⟨kr_205, ?_⟩
  refine List.forall_mem_cons.mpr ⟨kr_206, ?_⟩
  refine List.forall_mem_cons.mpr ⟨kr_207, ?_⟩
  refine List.forall_mem_cons.mpr ⟨kr_208, ?_⟩
  refine List.forall_mem_cons.mpr ⟨kr_209, ?_⟩
  refine List.forall_mem_cons.mpr ⟨kr_210, ?_⟩
  refine List.forall_mem_cons.mpr ⟨kr_211, ?_⟩
  refine List.forall_mem_cons.mpr ⟨kr_212, ?_⟩
  refine List.forall_mem_cons.mpr ⟨kr_213, ?_⟩
  refine List.forall_mem_cons.mpr ⟨kr_214, ?_⟩
  refine List.forall_mem_cons.mpr ⟨kr_215, ?_⟩
  refine List.forall_mem_cons.mpr ⟨kr_216, ?_⟩
  refine List.forall_mem_cons.mpr ⟨kr_217, ?_⟩
  refine List.forall_mem_cons.mpr ⟨kr_218, ?_⟩
  refine List.forall_mem_cons.mpr ⟨kr_219, ?_⟩
  refine List.forall_mem_cons.mpr ⟨kr_220, ?_⟩
  refine List.forall_mem_cons.mpr ⟨kr_221, ?_⟩
  refine List.forall_mem_cons.mpr ⟨kr_222, ?_⟩
  refine List.forall_mem_cons.mpr ⟨kr_223, ?_⟩
  refine List.forall_mem_cons.mpr ⟨kr_224, ?_⟩
  refine List.forall_mem_cons.mpr ⟨kr_225, ?_⟩
  refine List.forall_mem_cons.mpr ⟨kr_226, ?_⟩
  refine List.forall_mem_cons.mpr ⟨kr_227, ?_⟩
  refine List.forall_mem_cons.mpr ⟨kr_228, ?_⟩
  refine List.forall_mem_cons.mpr ⟨kr_229, ?_⟩
  refine List.forall_mem_cons.mpr ⟨kr_230, ?_⟩
  refine List.forall_mem_cons.mpr ⟨kr_231, ?_⟩
  refine List.forall_mem_cons.mpr ⟨kr_232, ?_⟩
  refine List.forall_mem_cons.mpr ⟨kr_233, ?_⟩
  refine List.forall_mem_cons.mpr ⟨kr_234, ?_⟩
  refine List.forall_mem_cons.mpr ⟨kr_235, ?_⟩
  refine List.forall_mem_cons.mpr ⟨kr_236, ?_⟩
  refine List.forall_mem_cons.mpr ⟨kr_237, ?_⟩
  refine List.forall_mem_cons.mpr ⟨kr_238, ?_⟩
  refine List.forall_mem_cons.mpr ⟨kr_239, ?_⟩
  refine List.forall_mem_cons.mpr ⟨kr_240, ?_⟩
  refine List.forall_mem_cons.mpr ⟨kr_241, ?_⟩
  refine List.forall_mem_cons.mpr ⟨kr_242, ?_⟩
  refine List.forall_mem_cons.mpr ⟨kr_243, ?_⟩
  refine List.forall_mem_cons.mpr ⟨kr_244, ?_⟩
  refine List.forall_mem_cons.mpr ⟨kr_245, ?_⟩
  refine List.forall_mem_cons.mpr ⟨kr_246, ?_⟩
  refine List.forall_mem_cons.mpr ⟨kr_247, ?_⟩
  refine List.forall_mem_cons.mpr ⟨kr_248, ?_⟩
  refine List.forall_mem_cons.mpr ⟨kr_249, ?_⟩
  refine List.forall_mem_cons.mpr ⟨kr_250, ?_⟩
  refine List.forall_mem_cons.mpr ⟨kr_251, ?_⟩
  refine List.forall_mem_cons.mpr ⟨kr_252, ?_⟩
  refine List.forall_mem_cons.mpr ⟨kr_253, ?_⟩
  refine List.forall_mem_cons.mpr ⟨kr_254, ?_⟩
  refine List.forall_mem_cons.mpr ⟨kr_255, ?_⟩
  refine List.forall_mem_cons.mpr ⟨kr_256, ?_⟩
  refine List.forall_mem_cons.mpr ⟨kr_257, ?_⟩
  refine List.forall_mem_cons.mpr ⟨kr_258, ?_⟩
  refine List.forall_mem_cons.mpr ⟨kr_259, ?_⟩
  refine List.forall_mem_cons.mpr ⟨kr_260, ?_⟩
  refine List.forall_mem_cons.mpr ⟨kr_261, ?_⟩
  refine List.forall_mem_cons.mpr ⟨kr_262, ?_⟩
  refine List.forall_mem_cons.mpr ⟨kr_263, ?_⟩
  refine List.forall_mem_cons.mpr ⟨kr_264, ?_⟩
  refine List.forall_mem_cons.mpr ⟨kr_265, ?_⟩
  refine List.forall_mem_cons.mpr ⟨kr_266, ?_⟩
  refine List.forall_mem_cons.mpr ⟨kr_267, ?_⟩
  refine List.forall_mem_cons.mpr ⟨kr_268, ?_⟩
  refine List.forall_mem_cons.mpr ⟨kr_269, ?_⟩
  refine List.forall_mem_cons.mpr ⟨kr_270, ?_⟩
  refine List.forall_mem_cons.mpr ⟨kr_271, ?_⟩
  refine List.forall_mem_cons.mpr ⟨kr_272, ?_⟩
  refine List.forall_mem_cons.mpr ⟨kr_273, ?_⟩
  refine List.forall_mem_cons.mpr ⟨kr_274, ?_⟩
  refine List.forall_mem_cons.mpr ⟨kr_275, ?_⟩
  refine List.forall_mem_cons.mpr ⟨kr_276, ?_⟩
  refine List.forall_mem_cons.mpr ⟨kr_277, ?_⟩
  refine List.forall_mem_cons.mpr ⟨kr_278, ?_⟩
  refine List.forall_mem_cons.mpr ⟨kr_279, ?_⟩
  refine List.forall_mem_cons.mpr ⟨kr_280, ?_⟩
  refine List.forall_mem_cons.mpr ⟨kr_281, ?_⟩
  refine List.forall_mem_cons.mpr ⟨kr_282, ?_⟩
  refine List.forall_mem_cons.mpr ⟨kr_283, ?_⟩
  refine List.forall_mem_cons.mpr ⟨kr_284, ?_⟩
  refine List.forall_mem_cons.mpr ⟨kr_285, ?_⟩
  refine List.forall_mem_cons.mpr ⟨kr_286, ?_⟩
  refine List.forall_mem_cons.mpr ⟨kr_287, ?_⟩
  refine List.forall_mem_cons.mpr ⟨kr_288, ?_⟩
  refine List.forall_mem_cons.mpr ⟨kr_289, ?_⟩
  refine List.forall_mem_cons.mpr ⟨kr_290, ?_⟩
  refine List.forall_mem_cons.mpr ⟨kr_291, ?_⟩
  refine List.forall_mem_cons.mpr ⟨kr_292, ?_⟩
  refine List.forall_mem_cons.mpr ⟨kr_293, ?_⟩
  refine List.forall_mem_cons.mpr ⟨kr_294, ?_⟩
  refine List.forall_mem_cons.mpr ⟨kr_295, ?_⟩
  refine List.forall_mem_cons.mpr ⟨kr_296, ?_⟩
  refine List.forall_mem_cons.mpr ⟨kr_297, ?_⟩
  refine List.forall_mem_cons.mpr ⟨kr_298, ?_⟩
  refine List.forall_mem_cons.mpr ⟨kr_299, ?_⟩
  refine List.forall_mem_cons.mpr ⟨kr_300, ?_⟩
  refine List.forall_mem_cons.mpr ⟨kr_301, ?_⟩
  refine List.forall_mem_cons.mpr ⟨kr_302, ?_⟩
  refine List.forall_mem_cons.mpr ⟨kr_303, ?_⟩
  refine List.forall_mem_cons.mpr ⟨kr_304, ?_⟩
  refine List.forall_mem_cons.mpr ⟨kr_305, ?_⟩
  refine List.forall_mem_cons.mpr ⟨kr_306, ?_⟩
  refine List.forall_mem_cons.mpr ⟨kr_307, ?_⟩
  refine List.forall_mem_cons.mpr ⟨kr_308, ?_⟩
  refine List.forall_mem_cons.mpr ⟨kr_309, ?_⟩
  refine List.forall_mem_cons.mpr ⟨kr_310, ?_⟩
  refine List.forall_mem_cons.mpr ⟨kr_311, ?_⟩
  refine List.forall_mem_cons.mpr ⟨kr_312, ?_⟩
  refine List.forall_mem_cons.mpr ⟨kr_313, ?_⟩
  refine List.forall_mem_cons.mpr ⟨kr_314, ?_⟩
  refine List.forall_mem_cons.mpr ⟨kr_315, ?_⟩
  exact fun _ h => absurd h List.not_mem_nil
def k_fok (r : Nat × Nat × Nat × Nat) : Prop := ∃ C T N, k_cl[r.2.2.1]? = some (C, T, N) ∧ r.2.2.2 < N ∧ Jvm.Cond.fieldLink (k_cn r.1) r.2.1 (T r.2.2.2).1 (T r.2.2.2).2.1 (T r.2.2.2).2.2.1 ∈ pm_tbl
theorem kf_0 : k_fok (7, 9, 7, 0) := ⟨_, _, _, rfl, by decide, kw_37⟩
theorem kf_1 : k_fok (7, 15, 7, 1) := ⟨_, _, _, rfl, by decide, kw_38⟩
theorem kf_2 : k_fok (11, 121, 7, 1) := ⟨_, _, _, rfl, by decide, kw_39⟩
theorem kf_3 : k_fok (7, 19, 7, 2) := ⟨_, _, _, rfl, by decide, kw_40⟩
theorem kf_4 : k_fok (7, 22, 7, 3) := ⟨_, _, _, rfl, by decide, kw_41⟩
theorem kf_5 : k_fok (7, 25, 7, 4) := ⟨_, _, _, rfl, by decide, kw_42⟩
theorem kf_6 : k_fok (7, 28, 7, 5) := ⟨_, _, _, rfl, by decide, kw_43⟩
theorem kf_7 : k_fok (7, 31, 7, 6) := ⟨_, _, _, rfl, by decide, kw_44⟩
theorem kf_8 : k_fok (9, 9, 9, 0) := ⟨_, _, _, rfl, by decide, kw_68⟩
theorem kf_9 : k_fok (11, 242, 9, 0) := ⟨_, _, _, rfl, by decide, kw_69⟩
theorem kf_10 : k_fok (9, 15, 9, 1) := ⟨_, _, _, rfl, by decide, kw_70⟩
theorem kf_11 : k_fok (11, 245, 9, 1) := ⟨_, _, _, rfl, by decide, kw_71⟩
theorem kf_12 : k_fok (3, 16, 3, 0) := ⟨_, _, _, rfl, by decide, kw_142⟩
theorem kf_13 : k_fok (2, 44, 3, 0) := ⟨_, _, _, rfl, by decide, kw_143⟩
theorem kf_14 : k_fok (11, 183, 3, 0) := ⟨_, _, _, rfl, by decide, kw_144⟩
theorem kf_15 : k_fok (3, 19, 3, 1) := ⟨_, _, _, rfl, by decide, kw_145⟩
theorem kf_16 : k_fok (2, 47, 3, 1) := ⟨_, _, _, rfl, by decide, kw_146⟩
theorem kf_17 : k_fok (11, 186, 3, 1) := ⟨_, _, _, rfl, by decide, kw_147⟩
theorem kf_18 : k_fok (3, 22, 3, 2) := ⟨_, _, _, rfl, by decide, kw_148⟩
theorem kf_19 : k_fok (2, 50, 3, 2) := ⟨_, _, _, rfl, by decide, kw_149⟩
theorem kf_20 : k_fok (11, 189, 3, 2) := ⟨_, _, _, rfl, by decide, kw_150⟩
theorem kf_21 : k_fok (3, 25, 3, 3) := ⟨_, _, _, rfl, by decide, kw_151⟩
theorem kf_22 : k_fok (2, 53, 3, 3) := ⟨_, _, _, rfl, by decide, kw_152⟩
theorem kf_23 : k_fok (11, 192, 3, 3) := ⟨_, _, _, rfl, by decide, kw_153⟩
theorem kf_24 : k_fok (3, 28, 3, 4) := ⟨_, _, _, rfl, by decide, kw_154⟩
theorem kf_25 : k_fok (2, 56, 3, 4) := ⟨_, _, _, rfl, by decide, kw_155⟩
theorem kf_26 : k_fok (11, 195, 3, 4) := ⟨_, _, _, rfl, by decide, kw_156⟩
theorem kf_27 : k_fok (3, 31, 3, 5) := ⟨_, _, _, rfl, by decide, kw_157⟩
theorem kf_28 : k_fok (2, 59, 3, 5) := ⟨_, _, _, rfl, by decide, kw_158⟩
theorem kf_29 : k_fok (7, 96, 3, 5) := ⟨_, _, _, rfl, by decide, kw_159⟩
theorem kf_30 : k_fok (11, 165, 3, 5) := ⟨_, _, _, rfl, by decide, kw_160⟩
theorem kf_31 : k_fok (3, 7, 3, 6) := ⟨_, _, _, rfl, by decide, kw_161⟩
theorem kf_32 : k_fok (2, 62, 3, 6) := ⟨_, _, _, rfl, by decide, kw_162⟩
theorem kf_33 : k_fok (11, 198, 3, 6) := ⟨_, _, _, rfl, by decide, kw_163⟩
theorem kf_34 : k_fok (3, 13, 3, 7) := ⟨_, _, _, rfl, by decide, kw_164⟩
theorem kf_35 : k_fok (2, 71, 3, 7) := ⟨_, _, _, rfl, by decide, kw_165⟩
theorem kf_36 : k_fok (11, 210, 3, 7) := ⟨_, _, _, rfl, by decide, kw_166⟩
theorem kf_37 : k_fok (2, 31, 2, 0) := ⟨_, _, _, rfl, by decide, kw_184⟩
theorem kf_38 : k_fok (11, 348, 2, 0) := ⟨_, _, _, rfl, by decide, kw_185⟩
theorem kf_39 : k_fok (2, 11, 2, 1) := ⟨_, _, _, rfl, by decide, kw_186⟩
theorem kf_40 : k_fok (7, 92, 2, 1) := ⟨_, _, _, rfl, by decide, kw_187⟩
theorem kf_41 : k_fok (11, 161, 2, 1) := ⟨_, _, _, rfl, by decide, kw_188⟩
theorem kf_42 : k_fok (2, 17, 2, 2) := ⟨_, _, _, rfl, by decide, kw_189⟩
theorem kf_43 : k_fok (11, 217, 2, 2) := ⟨_, _, _, rfl, by decide, kw_190⟩
theorem kf_44 : k_fok (2, 21, 2, 3) := ⟨_, _, _, rfl, by decide, kw_191⟩
theorem kf_45 : k_fok (11, 131, 2, 3) := ⟨_, _, _, rfl, by decide, kw_192⟩
theorem kf_46 : k_fok (2, 25, 2, 4) := ⟨_, _, _, rfl, by decide, kw_193⟩
theorem kf_47 : k_fok (11, 142, 2, 4) := ⟨_, _, _, rfl, by decide, kw_194⟩
theorem kf_48 : k_fok (2, 28, 2, 5) := ⟨_, _, _, rfl, by decide, kw_195⟩
theorem kf_49 : k_fok (11, 100, 2, 5) := ⟨_, _, _, rfl, by decide, kw_196⟩
theorem kf_50 : k_fok (7, 82, 2, 5) := ⟨_, _, _, rfl, by decide, kw_197⟩
theorem kf_51 : k_fok (4, 38, 4, 0) := ⟨_, _, _, rfl, by decide, kw_211⟩
theorem kf_52 : k_fok (11, 97, 4, 0) := ⟨_, _, _, rfl, by decide, kw_212⟩
theorem kf_53 : k_fok (4, 11, 4, 1) := ⟨_, _, _, rfl, by decide, kw_213⟩
theorem kf_54 : k_fok (4, 19, 4, 2) := ⟨_, _, _, rfl, by decide, kw_214⟩
theorem kf_55 : k_fok (11, 265, 4, 2) := ⟨_, _, _, rfl, by decide, kw_215⟩
theorem kf_56 : k_fok (4, 22, 4, 3) := ⟨_, _, _, rfl, by decide, kw_216⟩
theorem kf_57 : k_fok (11, 269, 4, 3) := ⟨_, _, _, rfl, by decide, kw_217⟩
theorem kf_58 : k_fok (4, 25, 4, 4) := ⟨_, _, _, rfl, by decide, kw_218⟩
theorem kf_59 : k_fok (11, 114, 4, 4) := ⟨_, _, _, rfl, by decide, kw_219⟩
theorem kf_60 : k_fok (4, 29, 4, 5) := ⟨_, _, _, rfl, by decide, kw_220⟩
theorem kf_61 : k_fok (11, 170, 4, 5) := ⟨_, _, _, rfl, by decide, kw_221⟩
theorem kf_62 : k_fok (4, 32, 4, 6) := ⟨_, _, _, rfl, by decide, kw_222⟩
theorem kf_63 : k_fok (11, 173, 4, 6) := ⟨_, _, _, rfl, by decide, kw_223⟩
theorem kf_64 : k_fok (11, 78, 11, 0) := ⟨_, _, _, rfl, by decide, kw_241⟩
theorem kf_65 : k_fok (11, 11, 11, 1) := ⟨_, _, _, rfl, by decide, kw_242⟩
theorem kf_66 : k_fok (11, 15, 11, 2) := ⟨_, _, _, rfl, by decide, kw_243⟩
theorem kf_67 : k_fok (11, 22, 11, 3) := ⟨_, _, _, rfl, by decide, kw_244⟩
theorem kf_68 : k_fok (11, 85, 11, 4) := ⟨_, _, _, rfl, by decide, kw_245⟩
theorem kf_69 : k_fok (11, 29, 11, 5) := ⟨_, _, _, rfl, by decide, kw_246⟩
theorem kf_70 : k_fok (11, 33, 11, 6) := ⟨_, _, _, rfl, by decide, kw_247⟩
theorem kf_71 : k_fok (11, 37, 11, 7) := ⟨_, _, _, rfl, by decide, kw_248⟩
theorem kf_72 : k_fok (11, 40, 11, 8) := ⟨_, _, _, rfl, by decide, kw_249⟩
theorem kf_73 : k_fok (11, 44, 11, 9) := ⟨_, _, _, rfl, by decide, kw_250⟩
theorem kf_74 : k_fok (11, 47, 11, 10) := ⟨_, _, _, rfl, by decide, kw_251⟩
theorem kf_75 : k_fok (11, 51, 11, 11) := ⟨_, _, _, rfl, by decide, kw_252⟩
theorem kf_76 : k_fok (11, 54, 11, 12) := ⟨_, _, _, rfl, by decide, kw_253⟩
theorem kf_77 : k_fok (12, 1, 12, 0) := ⟨_, _, _, rfl, by decide, kw_863⟩
theorem kf_78 : k_fok (12, 96, 12, 1) := ⟨_, _, _, rfl, by decide, kw_864⟩
theorem kf_79 : k_fok (12, 100, 12, 2) := ⟨_, _, _, rfl, by decide, kw_865⟩
theorem kf_80 : k_fok (12, 103, 12, 3) := ⟨_, _, _, rfl, by decide, kw_866⟩
theorem kf_81 : k_fok (12, 106, 12, 4) := ⟨_, _, _, rfl, by decide, kw_867⟩
theorem kf_82 : k_fok (12, 109, 12, 5) := ⟨_, _, _, rfl, by decide, kw_868⟩
theorem kf_83 : k_fok (12, 13, 12, 6) := ⟨_, _, _, rfl, by decide, kw_869⟩
theorem kf_84 : k_fok (12, 16, 12, 7) := ⟨_, _, _, rfl, by decide, kw_870⟩
theorem kf_85 : k_fok (12, 19, 12, 8) := ⟨_, _, _, rfl, by decide, kw_871⟩
theorem kf_86 : k_fok (12, 22, 12, 9) := ⟨_, _, _, rfl, by decide, kw_872⟩
theorem kf_87 : k_fok (12, 25, 12, 10) := ⟨_, _, _, rfl, by decide, kw_873⟩
theorem kf_88 : k_fok (12, 28, 12, 11) := ⟨_, _, _, rfl, by decide, kw_874⟩
theorem kf_89 : k_fok (12, 31, 12, 12) := ⟨_, _, _, rfl, by decide, kw_875⟩
theorem kf_90 : k_fok (12, 34, 12, 13) := ⟨_, _, _, rfl, by decide, kw_876⟩
theorem kf_91 : k_fok (12, 37, 12, 14) := ⟨_, _, _, rfl, by decide, kw_877⟩
theorem kf_92 : k_fok (12, 40, 12, 15) := ⟨_, _, _, rfl, by decide, kw_878⟩
theorem kf_93 : k_fok (12, 43, 12, 16) := ⟨_, _, _, rfl, by decide, kw_879⟩
theorem kf_94 : k_fok (12, 130, 12, 17) := ⟨_, _, _, rfl, by decide, kw_880⟩
theorem kf_95 : k_fok (12, 133, 12, 18) := ⟨_, _, _, rfl, by decide, kw_881⟩
theorem kf_96 : k_fok (12, 156, 12, 19) := ⟨_, _, _, rfl, by decide, kw_882⟩
theorem kf_97 : k_fok (12, 46, 12, 20) := ⟨_, _, _, rfl, by decide, kw_883⟩
theorem kf_98 : k_fok (12, 49, 12, 21) := ⟨_, _, _, rfl, by decide, kw_884⟩
theorem kf_99 : k_fok (12, 205, 12, 22) := ⟨_, _, _, rfl, by decide, kw_885⟩
theorem kf_100 : k_fok (12, 52, 12, 23) := ⟨_, _, _, rfl, by decide, kw_886⟩
theorem kf_101 : k_fok (12, 55, 12, 24) := ⟨_, _, _, rfl, by decide, kw_887⟩
theorem kf_102 : k_fok (12, 112, 12, 25) := ⟨_, _, _, rfl, by decide, kw_888⟩
theorem kf_103 : k_fok (12, 58, 12, 26) := ⟨_, _, _, rfl, by decide, kw_889⟩
theorem kf_104 : k_fok (12, 61, 12, 27) := ⟨_, _, _, rfl, by decide, kw_890⟩
theorem kf_105 : k_fok (12, 64, 12, 28) := ⟨_, _, _, rfl, by decide, kw_891⟩
theorem kf_106 : k_fok (12, 67, 12, 29) := ⟨_, _, _, rfl, by decide, kw_892⟩
theorem kf_107 : k_fok (12, 70, 12, 30) := ⟨_, _, _, rfl, by decide, kw_893⟩
theorem kf_108 : k_fok (12, 258, 12, 31) := ⟨_, _, _, rfl, by decide, kw_894⟩
theorem kf_109 : k_fok (12, 73, 12, 32) := ⟨_, _, _, rfl, by decide, kw_895⟩
theorem kf_110 : k_fok (12, 76, 12, 33) := ⟨_, _, _, rfl, by decide, kw_896⟩
theorem kf_111 : k_fok (12, 79, 12, 34) := ⟨_, _, _, rfl, by decide, kw_897⟩
theorem kf_112 : k_fok (12, 309, 12, 35) := ⟨_, _, _, rfl, by decide, kw_898⟩
theorem kf_113 : k_fok (12, 82, 12, 36) := ⟨_, _, _, rfl, by decide, kw_899⟩
theorem kf_114 : k_fok (12, 86, 12, 37) := ⟨_, _, _, rfl, by decide, kw_900⟩
theorem kf_115 : k_fok (12, 89, 12, 38) := ⟨_, _, _, rfl, by decide, kw_901⟩
theorem kf_116 : k_fok (12, 340, 12, 39) := ⟨_, _, _, rfl, by decide, kw_902⟩
theorem k_fd_ok : ∀ r ∈ k_fd, k_fok r := by
  unfold k_fd
  refine List.forall_mem_cons.mpr ⟨kf_0, ?_⟩
  refine List.forall_mem_cons.mpr ⟨kf_1, ?_⟩
  refine List.forall_mem_cons.mpr ⟨kf_2, ?_⟩
  refine List.forall_mem_cons.mpr ⟨kf_3, ?_⟩
  refine List.forall_mem_cons.mpr ⟨kf_4, ?_⟩
  refine List.forall_mem_cons.mpr ⟨kf_5, ?_⟩
  refine List.forall_mem_cons.mpr ⟨kf_6, ?_⟩
  refine List.forall_mem_cons.mpr ⟨kf_7, ?_⟩
  refine List.forall_mem_cons.mpr ⟨kf_8, ?_⟩
  refine List.forall_mem_cons.mpr ⟨kf_9, ?_⟩
  refine List.forall_mem_cons.mpr ⟨kf_10, ?_⟩
  refine List.forall_mem_cons.mpr ⟨kf_11, ?_⟩
  refine List.forall_mem_cons.mpr ⟨kf_12, ?_⟩
  refine List.forall_mem_cons.mpr ⟨kf_13, ?_⟩
  refine List.forall_mem_cons.mpr ⟨kf_14, ?_⟩
  refine List.forall_mem_cons.mpr ⟨kf_15, ?_⟩
  refine List.forall_mem_cons.mpr ⟨kf_16, ?_⟩
  refine List.forall_mem_cons.mpr ⟨kf_17, ?_⟩
  refine List.forall_mem_cons.mpr ⟨kf_18, ?_⟩
  refine List.forall_mem_cons.mpr ⟨kf_19, ?_⟩
  refine List.forall_mem_cons.mpr ⟨kf_20, ?_⟩
  refine List.forall_mem_cons.mpr ⟨kf_21, ?_⟩
  refine List.forall_mem_cons.mpr ⟨kf_22, ?_⟩
  refine List.forall_mem_cons.mpr ⟨kf_23, ?_⟩
  refine List.forall_mem_cons.mpr ⟨kf_24, ?_⟩
  refine List.forall_mem_cons.mpr ⟨kf_25, ?_⟩
  refine List.forall_mem_cons.mpr ⟨kf_26, ?_⟩
  refine List.forall_mem_cons.mpr ⟨kf_27, ?_⟩
  refine List.forall_mem_cons.mpr ⟨kf_28, ?_⟩
  refine List.forall_mem_cons.mpr ⟨kf_29, ?_⟩
  refine List.forall_mem_cons.mpr ⟨kf_30, ?_⟩
  refine List.forall_mem_cons.mpr ⟨kf_31, ?_⟩
  refine List.forall_mem_cons.mpr ⟨kf_32, ?_⟩
  refine List.forall_mem_cons.mpr ⟨kf_33, ?_⟩
  refine List.forall_mem_cons.mpr ⟨kf_34, ?_⟩
  refine List.forall_mem_cons.mpr ⟨kf_35, ?_⟩
  refine List.forall_mem_cons.mpr ⟨kf_36, ?_⟩
  refine List.forall_mem_cons.mpr ⟨kf_37, ?_⟩
  refine List.forall_mem_cons.mpr ⟨kf_38, ?_⟩
  refine List.forall_mem_cons.mpr ⟨kf_39, ?_⟩
  refine List.forall_mem_cons.mpr ⟨kf_40, ?_⟩
  refine List.forall_mem_cons.mpr ⟨kf_41, ?_⟩
  refine List.forall_mem_cons.mpr ⟨kf_42, ?_⟩
  refine List.forall_mem_cons.mpr ⟨kf_43, ?_⟩
  refine List.forall_mem_cons.mpr ⟨kf_44, ?_⟩
  refine List.forall_mem_cons.mpr ⟨kf_45, ?_⟩
  refine List.forall_mem_cons.mpr ⟨kf_46, ?_⟩
  refine List.forall_mem_cons.mpr ⟨kf_47, ?_⟩
  refine List.forall_mem_cons.mpr ⟨kf_48, ?_⟩
  refine List.forall_mem_cons.mpr ⟨kf_49, ?_⟩
  refine List.forall_mem_cons.mpr ⟨kf_50, ?_⟩
  refine List.forall_mem_cons.mpr ⟨kf_51, ?_⟩
  refine List.forall_mem_cons.mpr ⟨kf_52, ?_⟩
  refine List.forall_mem_cons.mpr ⟨kf_53, ?_⟩
  refine List.forall_mem_cons.mpr ⟨kf_54, ?_⟩
  refine List.forall_mem_cons.mpr ⟨kf_55, ?_⟩
  refine List.forall_mem_cons.mpr ⟨kf_56, ?_⟩
  refine List.forall_mem_cons.mpr ⟨kf_57, ?_⟩
  refine List.forall_mem_cons.mpr ⟨kf_58, ?_⟩
  refine List.forall_mem_cons.mpr ⟨kf_59, ?_⟩
  refine List.forall_mem_cons.mpr ⟨kf_60, ?_⟩
  refine List.forall_mem_cons.mpr ⟨kf_61, ?_⟩
  refine List.forall_mem_cons.mpr ⟨kf_62, ?_⟩
  refine List.forall_mem_cons.mpr ⟨kf_63, ?_⟩
  refine List.forall_mem_cons.mpr ⟨kf_64, ?_⟩
  refine List.forall_mem_cons.mpr ⟨kf_65, ?_⟩
  refine List.forall_mem_cons.mpr ⟨kf_66, ?_⟩
  refine List.forall_mem_cons.mpr ⟨kf_67, ?_⟩
  refine List.forall_mem_cons.mpr ⟨kf_68, ?_⟩
  refine List.forall_mem_cons.mpr ⟨kf_69, ?_⟩
  refine List.forall_mem_cons.mpr ⟨kf_70, ?_⟩
  refine List.forall_mem_cons.mpr ⟨kf_71, ?_⟩
  refine List.forall_mem_cons.mpr ⟨kf_72, ?_⟩
  refine List.forall_mem_cons.mpr ⟨kf_73, ?_⟩
  refine List.forall_mem_cons.mpr ⟨kf_74, ?_⟩
  refine List.forall_mem_cons.mpr ⟨kf_75, ?_⟩
  refine List.forall_mem_cons.mpr ⟨kf_76, ?_⟩
  refine List.forall_mem_cons.mpr ⟨kf_77, ?_⟩
  refine List.forall_mem_cons.mpr ⟨kf_78, ?_⟩
  refine List.forall_mem_cons.mpr ⟨kf_79, ?_⟩
  refine List.forall_mem_cons.mpr ⟨kf_80, ?_⟩
  refine List.forall_mem_cons.mpr ⟨kf_81, ?_⟩
  refine List.forall_mem_cons.mpr ⟨kf_82, ?_⟩
  refine List.forall_mem_cons.mpr ⟨kf_83, ?_⟩
  refine List.forall_mem_cons.mpr ⟨kf_84, ?_⟩
  refine List.forall_mem_cons.mpr ⟨kf_85, ?_⟩
  refine List.forall_mem_cons.mpr ⟨kf_86, ?_⟩
  refine List.forall_mem_cons.mpr ⟨kf_87, ?_⟩
  refine List.forall_mem_cons.mpr ⟨kf_88, ?_⟩
  refine List.forall_mem_cons.mpr ⟨kf_89, ?_⟩
  refine List.forall_mem_cons.mpr ⟨kf_90, ?_⟩
  refine List.forall_mem_cons.mpr ⟨kf_91, ?_⟩
  refine List.forall_mem_cons.mpr ⟨kf_92, ?_⟩
  refine List.forall_mem_cons.mpr ⟨kf_93, ?_⟩
  refine List.forall_mem_cons.mpr ⟨kf_94, ?_⟩
  refine List.forall_mem_cons.mpr ⟨kf_95, ?_⟩
  refine List.forall_mem_cons.mpr ⟨kf_96, ?_⟩
  refine List.forall_mem_cons.mpr ⟨kf_97, ?_⟩
  refine List.forall_mem_cons.mpr ⟨kf_98, ?_⟩
  refine List.forall_mem_cons.mpr ⟨kf_99, ?_⟩
  refine List.forall_mem_cons.mpr ⟨kf_100, ?_⟩
  refine List.forall_mem_cons.mpr ⟨kf_101, ?_⟩
  refine List.forall_mem_cons.mpr ⟨kf_102, ?_⟩
  refine List.forall_mem_cons.mpr ⟨kf_103, ?_⟩
  refine List.forall_mem_cons.mpr ⟨kf_104, ?_⟩
  refine List.forall_mem_cons.mpr ⟨kf_105, ?_⟩
  refine List.forall_mem_cons.mpr ⟨kf_106, ?_⟩
  refine List.forall_mem_cons.mpr ⟨kf_107, ?_⟩
  refine List.forall_mem_cons.mpr ⟨kf_108, ?_⟩
  refine List.forall_mem_cons.mpr ⟨kf_109, ?_⟩
  refine List.forall_mem_cons.mpr ⟨kf_110, ?_⟩
  refine List.forall_mem_cons.mpr ⟨kf_111, ?_⟩
  refine List.forall_mem_cons.mpr ⟨kf_112, ?_⟩
  refine List.forall_mem_cons.mpr ⟨kf_113, ?_⟩
  refine List.forall_mem_cons.mpr ⟨kf_114, ?_⟩
  refine List.forall_mem_cons.mpr ⟨kf_115, ?_⟩
  refine List.forall_mem_cons.mpr ⟨kf_116, ?_⟩
  exact fun _ h => absurd h List.not_mem_nil
theorem k_ci_ok : ∀ r ∈ k_ci, Jvm.Cond.constant (k_cn r.1) r.2.1 r.2.2 ∈ pm_tbl := by
  unfold k_ci
  refine List.forall_mem_cons.mpr ⟨kw_563, ?_⟩
  refine List.forall_mem_cons.mpr ⟨kw_564, ?_⟩
  refine List.forall_mem_cons.mpr ⟨kw_565, ?_⟩
  refine List.forall_mem_cons.mpr ⟨kw_794, ?_⟩
  refine List.forall_mem_cons.mpr ⟨kw_1214, ?_⟩
  refine List.forall_mem_cons.mpr ⟨kw_1315, ?_⟩
  exact fun _ h => absurd h List.not_mem_nil
theorem k_c2_ok : ∀ r ∈ k_c2, Jvm.Cond.constantLong (k_cn r.1) r.2.1 r.2.2 ∈ pm_tbl := by
  unfold k_c2
  refine List.forall_mem_cons.mpr ⟨kw_795, ?_⟩
  refine List.forall_mem_cons.mpr ⟨kw_796, ?_⟩
  refine List.forall_mem_cons.mpr ⟨kw_797, ?_⟩
  refine List.forall_mem_cons.mpr ⟨kw_798, ?_⟩
  refine List.forall_mem_cons.mpr ⟨kw_799, ?_⟩
  refine List.forall_mem_cons.mpr ⟨kw_835, ?_⟩
  refine List.forall_mem_cons.mpr ⟨kw_840, ?_⟩
  refine List.forall_mem_cons.mpr ⟨kw_1306, ?_⟩
  refine List.forall_mem_cons.mpr ⟨kw_1316, ?_⟩
  refine List.forall_mem_cons.mpr ⟨kw_1317, ?_⟩
  refine List.forall_mem_cons.mpr ⟨kw_1318, ?_⟩
  refine List.forall_mem_cons.mpr ⟨kw_1319, ?_⟩
  refine List.forall_mem_cons.mpr ⟨kw_1320, ?_⟩
  refine List.forall_mem_cons.mpr ⟨kw_1357, ?_⟩
  refine List.forall_mem_cons.mpr ⟨kw_1362, ?_⟩
  exact fun _ h => absurd h List.not_mem_nil
def k_an : Nat → String := fun t => match t with
  | 23 => "StandUpBook$Spread"
  | 24 => "StandUpBook$Page"
  | 25 => "StandUpBook$Piece"
  | 26 => "StandUpBook$Vee"
  | 27 => "[[I"
  | t => k_cn t
theorem k_nw_ok : ∀ r ∈ k_nw, Jvm.Cond.classLink (k_cn r.1) r.2.1 (k_an r.2.2) ∈ pm_tbl := by
  unfold k_nw
  refine List.forall_mem_cons.mpr ⟨kw_135, ?_⟩
  refine List.forall_mem_cons.mpr ⟨kw_135, ?_⟩
  refine List.forall_mem_cons.mpr ⟨kw_126, ?_⟩
  refine List.forall_mem_cons.mpr ⟨kw_128, ?_⟩
  refine List.forall_mem_cons.mpr ⟨kw_126, ?_⟩
  refine List.forall_mem_cons.mpr ⟨kw_29, ?_⟩
  refine List.forall_mem_cons.mpr ⟨kw_31, ?_⟩
  refine List.forall_mem_cons.mpr ⟨kw_62, ?_⟩
  refine List.forall_mem_cons.mpr ⟨kw_78, ?_⟩
  refine List.forall_mem_cons.mpr ⟨kw_78, ?_⟩
  refine List.forall_mem_cons.mpr ⟨kw_86, ?_⟩
  refine List.forall_mem_cons.mpr ⟨kw_93, ?_⟩
  refine List.forall_mem_cons.mpr ⟨kw_100, ?_⟩
  refine List.forall_mem_cons.mpr ⟨kw_107, ?_⟩
  refine List.forall_mem_cons.mpr ⟨kw_114, ?_⟩
  refine List.forall_mem_cons.mpr ⟨kw_29, ?_⟩
  refine List.forall_mem_cons.mpr ⟨kw_239, ?_⟩
  refine List.forall_mem_cons.mpr ⟨kw_21, ?_⟩
  refine List.forall_mem_cons.mpr ⟨kw_853, ?_⟩
  exact fun _ h => absurd h List.not_mem_nil
theorem kg_native : (Jvm.Cond.native ({ cls := "java/lang/System", name := "arraycopy", desc := "(Ljava/lang/Object;ILjava/lang/Object;II)V" } : Jvm.MethodName)) ∈ pm_tbl := kw_814
theorem kg_static : (Jvm.Cond.static ({ cls := "java/lang/System", name := "arraycopy", desc := "(Ljava/lang/Object;ILjava/lang/Object;II)V" } : Jvm.MethodName)) ∈ pm_tbl := kw_813
theorem kg_ini : (Jvm.Cond.initialized "java/lang/System") ∈ pm_tbl := kw_20
theorem kg_oi : (Jvm.Cond.instanceMethod ({ cls := "java/lang/Object", name := "<init>", desc := "()V" } : Jvm.MethodName)) ∈ pm_tbl := kw_27
theorem kg_ocode : (Jvm.Cond.code ({ cls := "java/lang/Object", name := "<init>", desc := "()V" } : Jvm.MethodName) object_method_1_code (1 : Nat) (Option.none : Option Jvm.ClassFile.FieldType)) ∈ pm_tbl := kw_28
theorem kg_smax : (Jvm.Cond.static ({ cls := "java/lang/Math", name := "max", desc := "(II)I" } : Jvm.MethodName)) ∈ pm_tbl := kw_655
theorem kg_cmax : (Jvm.Cond.code ({ cls := "java/lang/Math", name := "max", desc := "(II)I" } : Jvm.MethodName) prog_16_method_65_code (2 : Nat) (Option.some Jvm.ClassFile.FieldType.int)) ∈ pm_tbl := kw_656
theorem kg_smin : (Jvm.Cond.static ({ cls := "java/lang/Math", name := "min", desc := "(II)I" } : Jvm.MethodName)) ∈ pm_tbl := kw_465
theorem kg_cmin : (Jvm.Cond.code ({ cls := "java/lang/Math", name := "min", desc := "(II)I" } : Jvm.MethodName) prog_16_method_69_code (2 : Nat) (Option.some Jvm.ClassFile.FieldType.int)) ∈ pm_tbl := kw_466
theorem kg_sabs : (Jvm.Cond.static ({ cls := "java/lang/Math", name := "abs", desc := "(I)I" } : Jvm.MethodName)) ∈ pm_tbl := kw_458
theorem kg_cabs : (Jvm.Cond.code ({ cls := "java/lang/Math", name := "abs", desc := "(I)I" } : Jvm.MethodName) prog_16_method_59_code (1 : Nat) (Option.some Jvm.ClassFile.FieldType.int)) ∈ pm_tbl := kw_459
theorem kg_im : (Jvm.Cond.initialized "java/lang/Math") ∈ pm_tbl := kw_18
def k_qok (q : pm_D) : Prop := Jvm.Cond.code q.1 q.2.2.1 q.2.2.2.1 q.2.2.2.2.1 ∈ pm_tbl ∧ (∀ x ∈ q.2.2.2.2.2, decode q.2.2.1 x.1 = .ok x.2) ∧ q.1.cls = k_cn q.2.1 ∧ Jvm.Cond.initialized q.1.cls ∈ pm_tbl
theorem kq_0 : k_qok q_0 := ⟨kw_97, qd_0, rfl, k_ini0⟩
theorem kq_1 : k_qok q_1 := ⟨kw_518, qd_1, rfl, k_ini0⟩
theorem kq_2 : k_qok q_2 := ⟨kw_597, qd_2, rfl, k_ini0⟩
theorem kq_3 : k_qok q_3 := ⟨kw_323, qd_3, rfl, k_ini0⟩
theorem kq_4 : k_qok q_4 := ⟨kw_104, qd_4, rfl, k_ini1⟩
theorem kq_5 : k_qok q_5 := ⟨kw_522, qd_5, rfl, k_ini1⟩
theorem kq_6 : k_qok q_6 := ⟨kw_601, qd_6, rfl, k_ini1⟩
theorem kq_7 : k_qok q_7 := ⟨kw_133, qd_7, rfl, k_ini2⟩
theorem kq_8 : k_qok q_8 := ⟨kw_299, qd_8, rfl, k_ini2⟩
theorem kq_9 : k_qok q_9 := ⟨kw_475, qd_9, rfl, k_ini2⟩
theorem kq_10 : k_qok q_10 := ⟨kw_307, qd_10, rfl, k_ini2⟩
theorem kq_11 : k_qok q_11 := ⟨kw_315, qd_11, rfl, k_ini2⟩
theorem kq_12 : k_qok q_12 := ⟨kw_456, qd_12, rfl, k_ini2⟩
theorem kq_13 : k_qok q_13 := ⟨kw_556, qd_13, rfl, k_ini2⟩
theorem kq_14 : k_qok q_14 := ⟨kw_559, qd_14, rfl, k_ini2⟩
theorem kq_15 : k_qok q_15 := ⟨kw_586, qd_15, rfl, k_ini2⟩
theorem kq_16 : k_qok q_16 := ⟨kw_590, qd_16, rfl, k_ini2⟩
theorem kq_17 : k_qok q_17 := ⟨kw_778, qd_17, rfl, k_ini2⟩
theorem kq_18 : k_qok q_18 := ⟨kw_696, qd_18, rfl, k_ini2⟩
theorem kq_19 : k_qok q_19 := ⟨kw_830, qd_19, rfl, k_ini2⟩
theorem kq_20 : k_qok q_20 := ⟨kw_508, qd_20, rfl, k_ini2⟩
theorem kq_21 : k_qok q_21 := ⟨kw_504, qd_21, rfl, k_ini2⟩
theorem kq_22 : k_qok q_22 := ⟨kw_540, qd_22, rfl, k_ini2⟩
theorem kq_23 : k_qok q_23 := ⟨kw_635, qd_23, rfl, k_ini2⟩
theorem kq_24 : k_qok q_24 := ⟨kw_758, qd_24, rfl, k_ini2⟩
theorem kq_25 : k_qok q_25 := ⟨kw_648, qd_25, rfl, k_ini2⟩
theorem kq_26 : k_qok q_26 := ⟨kw_644, qd_26, rfl, k_ini2⟩
theorem kq_27 : k_qok q_27 := ⟨kw_653, qd_27, rfl, k_ini2⟩
theorem kq_28 : k_qok q_28 := ⟨kw_844, qd_28, rfl, k_ini2⟩
theorem kq_29 : k_qok q_29 := ⟨kw_140, qd_29, rfl, k_ini3⟩
theorem kq_30 : k_qok q_30 := ⟨kw_463, qd_30, rfl, k_ini3⟩
theorem kq_31 : k_qok q_31 := ⟨kw_479, qd_31, rfl, k_ini3⟩
theorem kq_32 : k_qok q_32 := ⟨kw_848, qd_32, rfl, k_ini3⟩
theorem kq_33 : k_qok q_33 := ⟨kw_124, qd_33, rfl, k_ini4⟩
theorem kq_34 : k_qok q_34 := ⟨kw_295, qd_34, rfl, k_ini4⟩
theorem kq_35 : k_qok q_35 := ⟨kw_494, qd_35, rfl, k_ini4⟩
theorem kq_36 : k_qok q_36 := ⟨kw_498, qd_36, rfl, k_ini4⟩
theorem kq_37 : k_qok q_37 := ⟨kw_573, qd_37, rfl, k_ini4⟩
theorem kq_38 : k_qok q_38 := ⟨kw_811, qd_38, rfl, k_ini4⟩
theorem kq_39 : k_qok q_39 := ⟨kw_111, qd_39, rfl, k_ini5⟩
theorem kq_40 : k_qok q_40 := ⟨kw_526, qd_40, rfl, k_ini5⟩
theorem kq_41 : k_qok q_41 := ⟨kw_328, qd_41, rfl, k_ini5⟩
theorem kq_42 : k_qok q_42 := ⟨kw_90, qd_42, rfl, k_ini6⟩
theorem kq_43 : k_qok q_43 := ⟨kw_530, qd_43, rfl, k_ini6⟩
theorem kq_44 : k_qok q_44 := ⟨kw_35, qd_44, rfl, k_ini7⟩
theorem kq_45 : k_qok q_45 := ⟨kw_345, qd_45, rfl, k_ini7⟩
theorem kq_46 : k_qok q_46 := ⟨kw_357, qd_46, rfl, k_ini7⟩
theorem kq_47 : k_qok q_47 := ⟨kw_377, qd_47, rfl, k_ini7⟩
theorem kq_48 : k_qok q_48 := ⟨kw_445, qd_48, rfl, k_ini7⟩
theorem kq_49 : k_qok q_49 := ⟨kw_452, qd_49, rfl, k_ini7⟩
theorem kq_50 : k_qok q_50 := ⟨kw_471, qd_50, rfl, k_ini7⟩
theorem kq_51 : k_qok q_51 := ⟨kw_434, qd_51, rfl, k_ini7⟩
theorem kq_52 : k_qok q_52 := ⟨kw_438, qd_52, rfl, k_ini7⟩
theorem kq_53 : k_qok q_53 := ⟨kw_382, qd_53, rfl, k_ini7⟩
theorem kq_54 : k_qok q_54 := ⟨kw_361, qd_54, rfl, k_ini7⟩
theorem kq_55 : k_qok q_55 := ⟨kw_373, qd_55, rfl, k_ini7⟩
theorem kq_56 : k_qok q_56 := ⟨kw_365, qd_56, rfl, k_ini7⟩
theorem kq_57 : k_qok q_57 := ⟨kw_369, qd_57, rfl, k_ini7⟩
theorem kq_58 : k_qok q_58 := ⟨kw_83, qd_58, rfl, k_ini8⟩
theorem kq_59 : k_qok q_59 := ⟨kw_536, qd_59, rfl, k_ini8⟩
theorem kq_60 : k_qok q_60 := ⟨kw_609, qd_60, rfl, k_ini8⟩
theorem kq_61 : k_qok q_61 := ⟨kw_337, qd_61, rfl, k_ini8⟩
theorem kq_62 : k_qok q_62 := ⟨kw_66, qd_62, rfl, k_ini9⟩
theorem kq_63 : k_qok q_63 := ⟨kw_672, qd_63, rfl, k_ini9⟩
theorem kq_64 : k_qok q_64 := ⟨kw_677, qd_64, rfl, k_ini9⟩
theorem kq_65 : k_qok q_65 := ⟨kw_683, qd_65, rfl, k_ini9⟩
theorem kq_66 : k_qok q_66 := ⟨kw_118, qd_66, rfl, k_ini10⟩
theorem kq_67 : k_qok q_67 := ⟨kw_534, qd_67, rfl, k_ini10⟩
theorem kq_68 : k_qok q_68 := ⟨kw_607, qd_68, rfl, k_ini10⟩
theorem kq_69 : k_qok q_69 := ⟨kw_333, qd_69, rfl, k_ini10⟩
theorem kq_70 : k_qok q_70 := ⟨kw_25, qd_70, rfl, k_ini11⟩
theorem kq_71 : k_qok q_71 := ⟨kw_284, qd_71, rfl, k_ini11⟩
theorem kq_72 : k_qok q_72 := ⟨kw_303, qd_72, rfl, k_ini11⟩
theorem kq_73 : k_qok q_73 := ⟨kw_341, qd_73, rfl, k_ini11⟩
theorem kq_74 : k_qok q_74 := ⟨kw_349, qd_74, rfl, k_ini11⟩
theorem kq_75 : k_qok q_75 := ⟨kw_353, qd_75, rfl, k_ini11⟩
theorem kq_76 : k_qok q_76 := ⟨kw_483, qd_76, rfl, k_ini11⟩
theorem kq_77 : k_qok q_77 := ⟨kw_544, qd_77, rfl, k_ini11⟩
theorem kq_78 : k_qok q_78 := ⟨kw_552, qd_78, rfl, k_ini11⟩
theorem kq_79 : k_qok q_79 := ⟨kw_569, qd_79, rfl, k_ini11⟩
theorem kq_80 : k_qok q_80 := ⟨kw_577, qd_80, rfl, k_ini11⟩
theorem kq_81 : k_qok q_81 := ⟨kw_582, qd_81, rfl, k_ini11⟩
theorem kq_82 : k_qok q_82 := ⟨kw_613, qd_82, rfl, k_ini11⟩
theorem kq_83 : k_qok q_83 := ⟨kw_618, qd_83, rfl, k_ini11⟩
theorem kq_84 : k_qok q_84 := ⟨kw_622, qd_84, rfl, k_ini11⟩
theorem kq_85 : k_qok q_85 := ⟨kw_631, qd_85, rfl, k_ini11⟩
theorem kq_86 : k_qok q_86 := ⟨kw_640, qd_86, rfl, k_ini11⟩
theorem kq_87 : k_qok q_87 := ⟨kw_660, qd_87, rfl, k_ini11⟩
theorem kq_88 : k_qok q_88 := ⟨kw_688, qd_88, rfl, k_ini11⟩
theorem kq_89 : k_qok q_89 := ⟨kw_692, qd_89, rfl, k_ini11⟩
theorem kq_90 : k_qok q_90 := ⟨kw_700, qd_90, rfl, k_ini11⟩
theorem kq_91 : k_qok q_91 := ⟨kw_709, qd_91, rfl, k_ini11⟩
theorem kq_92 : k_qok q_92 := ⟨kw_713, qd_92, rfl, k_ini11⟩
theorem kq_93 : k_qok q_93 := ⟨kw_717, qd_93, rfl, k_ini11⟩
theorem kq_94 : k_qok q_94 := ⟨kw_721, qd_94, rfl, k_ini11⟩
theorem kq_95 : k_qok q_95 := ⟨kw_734, qd_95, rfl, k_ini11⟩
theorem kq_96 : k_qok q_96 := ⟨kw_746, qd_96, rfl, k_ini11⟩
theorem kq_97 : k_qok q_97 := ⟨kw_754, qd_97, rfl, k_ini11⟩
theorem kq_98 : k_qok q_98 := ⟨kw_774, qd_98, rfl, k_ini11⟩
theorem kq_99 : k_qok q_99 := ⟨kw_793, qd_99, rfl, k_ini11⟩
theorem kq_100 : k_qok q_100 := ⟨kw_803, qd_100, rfl, k_ini11⟩
theorem kq_101 : k_qok q_101 := ⟨kw_807, qd_101, rfl, k_ini11⟩
theorem kq_102 : k_qok q_102 := ⟨kw_818, qd_102, rfl, k_ini11⟩
theorem kq_103 : k_qok q_103 := ⟨kw_822, qd_103, rfl, k_ini11⟩
theorem kq_104 : k_qok q_104 := ⟨kw_826, qd_104, rfl, k_ini11⟩
theorem kq_105 : k_qok q_105 := ⟨kw_834, qd_105, rfl, k_ini11⟩
theorem kq_106 : k_qok q_106 := ⟨kw_291, qd_106, rfl, k_ini11⟩
theorem kq_107 : k_qok q_107 := ⟨kw_668, qd_107, rfl, k_ini11⟩
theorem kq_108 : k_qok q_108 := ⟨kw_490, qd_108, rfl, k_ini11⟩
theorem kq_109 : k_qok q_109 := ⟨kw_311, qd_109, rfl, k_ini11⟩
theorem kq_110 : k_qok q_110 := ⟨kw_548, qd_110, rfl, k_ini11⟩
theorem kq_111 : k_qok q_111 := ⟨kw_664, qd_111, rfl, k_ini11⟩
theorem kq_112 : k_qok q_112 := ⟨kw_486, qd_112, rfl, k_ini11⟩
theorem kq_113 : k_qok q_113 := ⟨kw_287, qd_113, rfl, k_ini11⟩
theorem kq_114 : k_qok q_114 := ⟨kw_511, qd_114, rfl, k_ini11⟩
theorem kq_115 : k_qok q_115 := ⟨kw_626, qd_115, rfl, k_ini11⟩
theorem kq_116 : k_qok q_116 := ⟨kw_703, qd_116, rfl, k_ini11⟩
theorem kq_117 : k_qok q_117 := ⟨kw_725, qd_117, rfl, k_ini11⟩
theorem kq_118 : k_qok q_118 := ⟨kw_729, qd_118, rfl, k_ini11⟩
theorem kq_119 : k_qok q_119 := ⟨kw_738, qd_119, rfl, k_ini11⟩
theorem kq_120 : k_qok q_120 := ⟨kw_742, qd_120, rfl, k_ini11⟩
theorem kq_121 : k_qok q_121 := ⟨kw_750, qd_121, rfl, k_ini11⟩
theorem kq_122 : k_qok q_122 := ⟨kw_762, qd_122, rfl, k_ini11⟩
theorem kq_123 : k_qok q_123 := ⟨kw_766, qd_123, rfl, k_ini11⟩
theorem kq_124 : k_qok q_124 := ⟨kw_770, qd_124, rfl, k_ini11⟩
theorem kq_125 : k_qok q_125 := ⟨kw_782, qd_125, rfl, k_ini11⟩
theorem kq_126 : k_qok q_126 := ⟨kw_786, qd_126, rfl, k_ini11⟩
theorem kq_127 : k_qok q_127 := ⟨kw_789, qd_127, rfl, k_ini11⟩
theorem kq_128 : k_qok q_128 := ⟨kw_839, qd_128, rfl, k_ini11⟩
theorem kq_129 : k_qok q_129 := ⟨kw_852, qd_129, rfl, k_ini11⟩
theorem kq_130 : k_qok q_130 := ⟨kw_994, qd_130, rfl, k_ini12⟩
theorem kq_131 : k_qok q_131 := ⟨kw_1209, qd_131, rfl, k_ini12⟩
theorem kq_132 : k_qok q_132 := ⟨kw_1117, qd_132, rfl, k_ini12⟩
theorem kq_133 : k_qok q_133 := ⟨kw_1002, qd_133, rfl, k_ini12⟩
theorem kq_134 : k_qok q_134 := ⟨kw_990, qd_134, rfl, k_ini12⟩
theorem kq_135 : k_qok q_135 := ⟨kw_1136, qd_135, rfl, k_ini12⟩
theorem kq_136 : k_qok q_136 := ⟨kw_1090, qd_136, rfl, k_ini12⟩
theorem kq_137 : k_qok q_137 := ⟨kw_1189, qd_137, rfl, k_ini12⟩
theorem kq_138 : k_qok q_138 := ⟨kw_1186, qd_138, rfl, k_ini12⟩
theorem kq_139 : k_qok q_139 := ⟨kw_857, qd_139, rfl, k_ini12⟩
theorem kq_140 : k_qok q_140 := ⟨kw_862, qd_140, rfl, k_ini12⟩
theorem kq_141 : k_qok q_141 := ⟨kw_1147, qd_141, rfl, k_ini12⟩
theorem kq_142 : k_qok q_142 := ⟨kw_1113, qd_142, rfl, k_ini12⟩
theorem kq_143 : k_qok q_143 := ⟨kw_1205, qd_143, rfl, k_ini12⟩
theorem kq_144 : k_qok q_144 := ⟨kw_987, qd_144, rfl, k_ini12⟩
theorem kq_145 : k_qok q_145 := ⟨kw_1006, qd_145, rfl, k_ini12⟩
theorem kq_146 : k_qok q_146 := ⟨kw_998, qd_146, rfl, k_ini12⟩
theorem kq_147 : k_qok q_147 := ⟨kw_1010, qd_147, rfl, k_ini12⟩
theorem kq_148 : k_qok q_148 := ⟨kw_1014, qd_148, rfl, k_ini12⟩
theorem kq_149 : k_qok q_149 := ⟨kw_1042, qd_149, rfl, k_ini12⟩
theorem kq_150 : k_qok q_150 := ⟨kw_1038, qd_150, rfl, k_ini12⟩
theorem kq_151 : k_qok q_151 := ⟨kw_1053, qd_151, rfl, k_ini12⟩
theorem kq_152 : k_qok q_152 := ⟨kw_1064, qd_152, rfl, k_ini12⟩
theorem kq_153 : k_qok q_153 := ⟨kw_1050, qd_153, rfl, k_ini12⟩
theorem kq_154 : k_qok q_154 := ⟨kw_1057, qd_154, rfl, k_ini12⟩
theorem kq_155 : k_qok q_155 := ⟨kw_1046, qd_155, rfl, k_ini12⟩
theorem kq_156 : k_qok q_156 := ⟨kw_1061, qd_156, rfl, k_ini12⟩
theorem kq_157 : k_qok q_157 := ⟨kw_1068, qd_157, rfl, k_ini12⟩
theorem kq_158 : k_qok q_158 := ⟨kw_1098, qd_158, rfl, k_ini12⟩
theorem kq_159 : k_qok q_159 := ⟨kw_1076, qd_159, rfl, k_ini12⟩
theorem kq_160 : k_qok q_160 := ⟨kw_1094, qd_160, rfl, k_ini12⟩
theorem kq_161 : k_qok q_161 := ⟨kw_1072, qd_161, rfl, k_ini12⟩
theorem kq_162 : k_qok q_162 := ⟨kw_1034, qd_162, rfl, k_ini12⟩
theorem kq_163 : k_qok q_163 := ⟨kw_1030, qd_163, rfl, k_ini12⟩
theorem kq_164 : k_qok q_164 := ⟨kw_1018, qd_164, rfl, k_ini12⟩
theorem kq_165 : k_qok q_165 := ⟨kw_1139, qd_165, rfl, k_ini12⟩
theorem kq_166 : k_qok q_166 := ⟨kw_1167, qd_166, rfl, k_ini12⟩
theorem kq_167 : k_qok q_167 := ⟨kw_1087, qd_167, rfl, k_ini12⟩
theorem kq_168 : k_qok q_168 := ⟨kw_1084, qd_168, rfl, k_ini12⟩
theorem kq_169 : k_qok q_169 := ⟨kw_1133, qd_169, rfl, k_ini12⟩
theorem kq_170 : k_qok q_170 := ⟨kw_1129, qd_170, rfl, k_ini12⟩
theorem kq_171 : k_qok q_171 := ⟨kw_1125, qd_171, rfl, k_ini12⟩
theorem kq_172 : k_qok q_172 := ⟨kw_1026, qd_172, rfl, k_ini12⟩
theorem kq_173 : k_qok q_173 := ⟨kw_1106, qd_173, rfl, k_ini12⟩
theorem kq_174 : k_qok q_174 := ⟨kw_1121, qd_174, rfl, k_ini12⟩
theorem kq_175 : k_qok q_175 := ⟨kw_1080, qd_175, rfl, k_ini12⟩
theorem kq_176 : k_qok q_176 := ⟨kw_1110, qd_176, rfl, k_ini12⟩
theorem kq_177 : k_qok q_177 := ⟨kw_1143, qd_177, rfl, k_ini12⟩
theorem kq_178 : k_qok q_178 := ⟨kw_1151, qd_178, rfl, k_ini12⟩
theorem kq_179 : k_qok q_179 := ⟨kw_1155, qd_179, rfl, k_ini12⟩
theorem kq_180 : k_qok q_180 := ⟨kw_1159, qd_180, rfl, k_ini12⟩
theorem kq_181 : k_qok q_181 := ⟨kw_1163, qd_181, rfl, k_ini12⟩
theorem kq_182 : k_qok q_182 := ⟨kw_1171, qd_182, rfl, k_ini12⟩
theorem kq_183 : k_qok q_183 := ⟨kw_1175, qd_183, rfl, k_ini12⟩
theorem kq_184 : k_qok q_184 := ⟨kw_1179, qd_184, rfl, k_ini12⟩
theorem kq_185 : k_qok q_185 := ⟨kw_1183, qd_185, rfl, k_ini12⟩
theorem kq_186 : k_qok q_186 := ⟨kw_1197, qd_186, rfl, k_ini12⟩
theorem kq_187 : k_qok q_187 := ⟨kw_1193, qd_187, rfl, k_ini12⟩
theorem kq_188 : k_qok q_188 := ⟨kw_1213, qd_188, rfl, k_ini12⟩
theorem kq_189 : k_qok q_189 := ⟨kw_1218, qd_189, rfl, k_ini12⟩
theorem kq_190 : k_qok q_190 := ⟨kw_1226, qd_190, rfl, k_ini12⟩
theorem kq_191 : k_qok q_191 := ⟨kw_1222, qd_191, rfl, k_ini12⟩
theorem kq_192 : k_qok q_192 := ⟨kw_1230, qd_192, rfl, k_ini12⟩
theorem kq_193 : k_qok q_193 := ⟨kw_1201, qd_193, rfl, k_ini12⟩
theorem kq_194 : k_qok q_194 := ⟨kw_1234, qd_194, rfl, k_ini12⟩
theorem kq_195 : k_qok q_195 := ⟨kw_1242, qd_195, rfl, k_ini12⟩
theorem kq_196 : k_qok q_196 := ⟨kw_1238, qd_196, rfl, k_ini12⟩
theorem kq_197 : k_qok q_197 := ⟨kw_1250, qd_197, rfl, k_ini12⟩
theorem kq_198 : k_qok q_198 := ⟨kw_1246, qd_198, rfl, k_ini12⟩
theorem kq_199 : k_qok q_199 := ⟨kw_1254, qd_199, rfl, k_ini12⟩
theorem kq_200 : k_qok q_200 := ⟨kw_1258, qd_200, rfl, k_ini12⟩
theorem kq_201 : k_qok q_201 := ⟨kw_1262, qd_201, rfl, k_ini12⟩
theorem kq_202 : k_qok q_202 := ⟨kw_1270, qd_202, rfl, k_ini12⟩
theorem kq_203 : k_qok q_203 := ⟨kw_1266, qd_203, rfl, k_ini12⟩
theorem kq_204 : k_qok q_204 := ⟨kw_1277, qd_204, rfl, k_ini12⟩
theorem kq_205 : k_qok q_205 := ⟨kw_1274, qd_205, rfl, k_ini12⟩
theorem kq_206 : k_qok q_206 := ⟨kw_1285, qd_206, rfl, k_ini12⟩
theorem kq_207 : k_qok q_207 := ⟨kw_1281, qd_207, rfl, k_ini12⟩
theorem kq_208 : k_qok q_208 := ⟨kw_1297, qd_208, rfl, k_ini12⟩
theorem kq_209 : k_qok q_209 := ⟨kw_1301, qd_209, rfl, k_ini12⟩
theorem kq_210 : k_qok q_210 := ⟨kw_1293, qd_210, rfl, k_ini12⟩
theorem kq_211 : k_qok q_211 := ⟨kw_1289, qd_211, rfl, k_ini12⟩
theorem kq_212 : k_qok q_212 := ⟨kw_1310, qd_212, rfl, k_ini12⟩
theorem kq_213 : k_qok q_213 := ⟨kw_1305, qd_213, rfl, k_ini12⟩
theorem kq_214 : k_qok q_214 := ⟨kw_1314, qd_214, rfl, k_ini12⟩
theorem kq_215 : k_qok q_215 := ⟨kw_1324, qd_215, rfl, k_ini12⟩
theorem kq_216 : k_qok q_216 := ⟨kw_1022, qd_216, rfl, k_ini12⟩
theorem kq_217 : k_qok q_217 := ⟨kw_1102, qd_217, rfl, k_ini12⟩
theorem kq_218 : k_qok q_218 := ⟨kw_1328, qd_218, rfl, k_ini12⟩
theorem kq_219 : k_qok q_219 := ⟨kw_1332, qd_219, rfl, k_ini12⟩
theorem kq_220 : k_qok q_220 := ⟨kw_1336, qd_220, rfl, k_ini12⟩
theorem kq_221 : k_qok q_221 := ⟨kw_1352, qd_221, rfl, k_ini12⟩
theorem kq_222 : k_qok q_222 := ⟨kw_1348, qd_222, rfl, k_ini12⟩
theorem kq_223 : k_qok q_223 := ⟨kw_1344, qd_223, rfl, k_ini12⟩
theorem kq_224 : k_qok q_224 := ⟨kw_1340, qd_224, rfl, k_ini12⟩
theorem kq_225 : k_qok q_225 := ⟨kw_1361, qd_225, rfl, k_ini12⟩
theorem kq_226 : k_qok q_226 := ⟨kw_1356, qd_226, rfl, k_ini12⟩
theorem kq_227 : k_qok q_227 := ⟨kw_562, qd_227, rfl, k_ini14⟩
theorem kq_228 : k_qok q_228 := ⟨kw_459, qd_228, rfl, k_ini15⟩
theorem kq_229 : k_qok q_229 := ⟨kw_656, qd_229, rfl, k_ini15⟩
theorem kq_230 : k_qok q_230 := ⟨kw_466, qd_230, rfl, k_ini15⟩
theorem k_all_ok : ∀ q ∈ pm_all, k_qok q := by
  unfold pm_all
  refine List.forall_mem_cons.mpr ⟨kq_0, ?_⟩
  refine List.forall_mem_cons.mpr ⟨kq_1, ?_⟩
  refine List.forall_mem_cons.mpr ⟨kq_2, ?_⟩
  refine List.forall_mem_cons.mpr ⟨kq_3, ?_⟩
  refine List.forall_mem_cons.mpr ⟨kq_4, ?_⟩
  refine List.forall_mem_cons.mpr ⟨kq_5, ?_⟩
  refine List.forall_mem_cons.mpr ⟨kq_6, ?_⟩
  refine List.forall_mem_cons.mpr ⟨kq_7, ?_⟩
  refine List.forall_mem_cons.mpr ⟨kq_8, ?_⟩
  refine List.forall_mem_cons.mpr ⟨kq_9, ?_⟩
  refine List.forall_mem_cons.mpr ⟨kq_10, ?_⟩
  refine List.forall_mem_cons.mpr ⟨kq_11, ?_⟩
  refine List.forall_mem_cons.mpr ⟨kq_12, ?_⟩
  refine List.forall_mem_cons.mpr ⟨kq_13, ?_⟩
  refine List.forall_mem_cons.mpr ⟨kq_14, ?_⟩
  refine List.forall_mem_cons.mpr ⟨kq_15, ?_⟩
  refine List.forall_mem_cons.mpr ⟨kq_16, ?_⟩
  refine List.forall_mem_cons.mpr ⟨kq_17, ?_⟩
  refine List.forall_mem_cons.mpr ⟨kq_18, ?_⟩
  refine List.forall_mem_cons.mpr ⟨kq_19, ?_⟩
  refine List.forall_mem_cons.mpr ⟨kq_20, ?_⟩
  refine List.forall_mem_cons.mpr ⟨kq_21, ?_⟩
  refine List.forall_mem_cons.mpr ⟨kq_22, ?_⟩
  refine List.forall_mem_cons.mpr ⟨kq_23, ?_⟩
  refine List.forall_mem_cons.mpr ⟨kq_24, ?_⟩
  refine List.forall_mem_cons.mpr ⟨kq_25, ?_⟩
  refine List.forall_mem_cons.mpr ⟨kq_26, ?_⟩
  refine List.forall_mem_cons.mpr ⟨kq_27, ?_⟩
  refine List.forall_mem_cons.mpr ⟨kq_28, ?_⟩
  refine List.forall_mem_cons.mpr ⟨kq_29, ?_⟩
  refine List.forall_mem_cons.mpr ⟨kq_30, ?_⟩
  refine List.forall_mem_cons.mpr ⟨kq_31, ?_⟩
  refine List.forall_mem_cons.mpr ⟨kq_32, ?_⟩
  refine List.forall_mem_cons.mpr ⟨kq_33, ?_⟩
  refine List.forall_mem_cons.mpr ⟨kq_34, ?_⟩
  refine List.forall_mem_cons.mpr ⟨kq_35, ?_⟩
  refine List.forall_mem_cons.mpr ⟨kq_36, ?_⟩
  refine List.forall_mem_cons.mpr ⟨kq_37, ?_⟩
  refine List.forall_mem_cons.mpr ⟨kq_38, ?_⟩
  refine List.forall_mem_cons.mpr ⟨kq_39, ?_⟩
  refine List.forall_mem_cons.mpr ⟨kq_40, ?_⟩
  refine List.forall_mem_cons.mpr ⟨kq_41, ?_⟩
  refine List.forall_mem_cons.mpr ⟨kq_42, ?_⟩
  refine List.forall_mem_cons.mpr ⟨kq_43, ?_⟩
  refine List.forall_mem_cons.mpr ⟨kq_44, ?_⟩
  refine List.forall_mem_cons.mpr ⟨kq_45, ?_⟩
  refine List.forall_mem_cons.mpr ⟨kq_46, ?_⟩
  refine List.forall_mem_cons.mpr ⟨kq_47, ?_⟩
  refine List.forall_mem_cons.mpr ⟨kq_48, ?_⟩
  refine List.forall_mem_cons.mpr ⟨kq_49, ?_⟩
  refine List.forall_mem_cons.mpr ⟨kq_50, ?_⟩
  refine List.forall_mem_cons.mpr ⟨kq_51, ?_⟩
  refine List.forall_mem_cons.mpr ⟨kq_52, ?_⟩
  refine List.forall_mem_cons.mpr ⟨kq_53, ?_⟩
  refine List.forall_mem_cons.mpr ⟨kq_54, ?_⟩
  refine List.forall_mem_cons.mpr ⟨kq_55, ?_⟩
  refine List.forall_mem_cons.mpr ⟨kq_56, ?_⟩
  refine List.forall_mem_cons.mpr ⟨kq_57, ?_⟩
  refine List.forall_mem_cons.mpr ⟨kq_58, ?_⟩
  refine List.forall_mem_cons.mpr ⟨kq_59, ?_⟩
  refine List.forall_mem_cons.mpr ⟨kq_60, ?_⟩
  refine List.forall_mem_cons.mpr ⟨kq_61, ?_⟩
  refine List.forall_mem_cons.mpr ⟨kq_62, ?_⟩
  refine List.forall_mem_cons.mpr ⟨kq_63, ?_⟩
  refine List.forall_mem_cons.mpr ⟨kq_64, ?_⟩
  refine List.forall_mem_cons.mpr ⟨kq_65, ?_⟩
  refine List.forall_mem_cons.mpr ⟨kq_66, ?_⟩
  refine List.forall_mem_cons.mpr ⟨kq_67, ?_⟩
  refine List.forall_mem_cons.mpr ⟨kq_68, ?_⟩
  refine List.forall_mem_cons.mpr ⟨kq_69, ?_⟩
  refine List.forall_mem_cons.mpr ⟨kq_70, ?_⟩
  refine List.forall_mem_cons.mpr ⟨kq_71, ?_⟩
  refine List.forall_mem_cons.mpr ⟨kq_72, ?_⟩
  refine List.forall_mem_cons.mpr ⟨kq_73, ?_⟩
  refine List.forall_mem_cons.mpr ⟨kq_74, ?_⟩
  refine List.forall_mem_cons.mpr ⟨kq_75, ?_⟩
  refine List.forall_mem_cons.mpr ⟨kq_76, ?_⟩
  refine List.forall_mem_cons.mpr ⟨kq_77, ?_⟩
  refine List.forall_mem_cons.mpr ⟨kq_78, ?_⟩
  refine List.forall_mem_cons.mpr ⟨kq_79, ?_⟩
  refine List.forall_mem_cons.mpr ⟨kq_80, ?_⟩
  refine List.forall_mem_cons.mpr ⟨kq_81, ?_⟩
  refine List.forall_mem_cons.mpr ⟨kq_82, ?_⟩
  refine List.forall_mem_cons.mpr ⟨kq_83, ?_⟩
  refine List.forall_mem_cons.mpr ⟨kq_84, ?_⟩
  refine List.forall_mem_cons.mpr ⟨kq_85, ?_⟩
  refine List.forall_mem_cons.mpr ⟨kq_86, ?_⟩
  refine List.forall_mem_cons.mpr ⟨kq_87, ?_⟩
  refine List.forall_mem_cons.mpr ⟨kq_88, ?_⟩
  refine List.forall_mem_cons.mpr ⟨kq_89, ?_⟩
  refine List.forall_mem_cons.mpr ⟨kq_90, ?_⟩
  refine List.forall_mem_cons.mpr ⟨kq_91, ?_⟩
  refine List.forall_mem_cons.mpr ⟨kq_92, ?_⟩
  refine List.forall_mem_cons.mpr ⟨kq_93, ?_⟩
  refine List.forall_mem_cons.mpr ⟨kq_94, ?_⟩
  refine List.forall_mem_cons.mpr ⟨kq_95, ?_⟩
  refine List.forall_mem_cons.mpr ⟨kq_96, ?_⟩
  refine List.forall_mem_cons.mpr ⟨kq_97, ?_⟩
  refine List.forall_mem_cons.mpr ⟨kq_98, ?_⟩
  refine List.forall_mem_cons.mpr ⟨kq_99, ?_⟩
  refine List.forall_mem_cons.mpr ⟨kq_100, ?_⟩
  refine List.forall_mem_cons.mpr ⟨kq_101, ?_⟩
  refine List.forall_mem_cons.mpr ⟨kq_102, ?_⟩
  refine List.forall_mem_cons.mpr ⟨kq_103, ?_⟩
  refine List.forall_mem_cons.mpr ⟨kq_104, ?_⟩
  refine List.forall_mem_cons.mpr ⟨kq_105, ?_⟩
  refine List.forall_mem_cons.mpr ⟨kq_106, ?_⟩
  refine List.forall_mem_cons.mpr ⟨kq_107, ?_⟩
  refine List.forall_mem_cons.mpr ⟨kq_108, ?_⟩
  refine List.forall_mem_cons.mpr ⟨kq_109, ?_⟩
  refine List.forall_mem_cons.mpr ⟨kq_110, ?_⟩
  refine List.forall_mem_cons.mpr ⟨kq_111, ?_⟩
  refine List.forall_mem_cons.mpr ⟨kq_112, ?_⟩
  refine List.forall_mem_cons.mpr ⟨kq_113, ?_⟩
  refine List.forall_mem_cons.mpr ⟨kq_114, ?_⟩
  refine List.forall_mem_cons.mpr ⟨kq_115, ?_⟩
  refine List.forall_mem_cons.mpr ⟨kq_116, ?_⟩
  refine List.forall_mem_cons.mpr ⟨kq_117, ?_⟩
  refine List.forall_mem_cons.mpr ⟨kq_118, ?_⟩
  refine List.forall_mem_cons.mpr ⟨kq_119, ?_⟩
  refine List.forall_mem_cons.mpr ⟨kq_120, ?_⟩
  refine List.forall_mem_cons.mpr ⟨kq_121, ?_⟩
  refine List.forall_mem_cons.mpr ⟨kq_122, ?_⟩
  refine List.forall_mem_cons.mpr ⟨kq_123, ?_⟩
  refine List.forall_mem_cons.mpr ⟨kq_124, ?_⟩
  refine List.forall_mem_cons.mpr ⟨kq_125, ?_⟩
  refine List.forall_mem_cons.mpr ⟨kq_126, ?_⟩
  refine List.forall_mem_cons.mpr ⟨kq_127, ?_⟩
  refine List.forall_mem_cons.mpr ⟨kq_128, ?_⟩
  refine List.forall_mem_cons.mpr ⟨kq_129, ?_⟩
  refine List.forall_mem_cons.mpr ⟨kq_130, ?_⟩
  refine List.forall_mem_cons.mpr ⟨kq_131, ?_⟩
  refine List.forall_mem_cons.mpr ⟨kq_132, ?_⟩
  refine List.forall_mem_cons.mpr ⟨kq_133, ?_⟩
  refine List.forall_mem_cons.mpr ⟨kq_134, ?_⟩
  refine List.forall_mem_cons.mpr ⟨kq_135, ?_⟩
  refine List.forall_mem_cons.mpr ⟨kq_136, ?_⟩
  refine List.forall_mem_cons.mpr ⟨kq_137, ?_⟩
  refine List.forall_mem_cons.mpr ⟨kq_138, ?_⟩
  refine List.forall_mem_cons.mpr ⟨kq_139, ?_⟩
  refine List.forall_mem_cons.mpr ⟨kq_140, ?_⟩
  refine List.forall_mem_cons.mpr ⟨kq_141, ?_⟩
  refine List.forall_mem_cons.mpr ⟨kq_142, ?_⟩
  refine List.forall_mem_cons.mpr ⟨kq_143, ?_⟩
  refine List.forall_mem_cons.mpr ⟨kq_144, ?_⟩
  refine List.forall_mem_cons.mpr ⟨kq_145, ?_⟩
  refine List.forall_mem_cons.mpr ⟨kq_146, ?_⟩
  refine List.forall_mem_cons.mpr ⟨kq_147, ?_⟩
  refine List.forall_mem_cons.mpr ⟨kq_148, ?_⟩
  refine List.forall_mem_cons.mpr ⟨kq_149, ?_⟩
  refine List.forall_mem_cons.mpr ⟨kq_150, ?_⟩
  refine List.forall_mem_cons.mpr ⟨kq_151, ?_⟩
  refine List.forall_mem_cons.mpr ⟨kq_152, ?_⟩
  refine List.forall_mem_cons.mpr ⟨kq_153, ?_⟩
  refine List.forall_mem_cons.mpr ⟨kq_154, ?_⟩
  refine List.forall_mem_cons.mpr ⟨kq_155, ?_⟩
  refine List.forall_mem_cons.mpr ⟨kq_156, ?_⟩
  refine List.forall_mem_cons.mpr ⟨kq_157, ?_⟩
  refine List.forall_mem_cons.mpr ⟨kq_158, ?_⟩
  refine List.forall_mem_cons.mpr ⟨kq_159, ?_⟩
  refine List.forall_mem_cons.mpr ⟨kq_160, ?_⟩
  refine List.forall_mem_cons.mpr ⟨kq_161, ?_⟩
  refine List.forall_mem_cons.mpr ⟨kq_162, ?_⟩
  refine List.forall_mem_cons.mpr ⟨kq_163, ?_⟩
  refine List.forall_mem_cons.mpr ⟨kq_164, ?_⟩
  refine List.forall_mem_cons.mpr ⟨kq_165, ?_⟩
  refine List.forall_mem_cons.mpr ⟨kq_166, ?_⟩
  refine List.forall_mem_cons.mpr ⟨kq_167, ?_⟩
  refine List.forall_mem_cons.mpr ⟨kq_168, ?_⟩
  refine List.forall_mem_cons.mpr ⟨kq_169, ?_⟩
  refine List.forall_mem_cons.mpr ⟨kq_170, ?_⟩
  refine List.forall_mem_cons.mpr ⟨kq_171, ?_⟩
  refine List.forall_mem_cons.mpr ⟨kq_172, ?_⟩
  refine List.forall_mem_cons.mpr ⟨kq_173, ?_⟩
  refine List.forall_mem_cons.mpr ⟨kq_174, ?_⟩
  refine List.forall_mem_cons.mpr ⟨kq_175, ?_⟩
  refine List.forall_mem_cons.mpr ⟨kq_176, ?_⟩
  refine List.forall_mem_cons.mpr ⟨kq_177, ?_⟩
  refine List.forall_mem_cons.mpr ⟨kq_178, ?_⟩
  refine List.forall_mem_cons.mpr ⟨kq_179, ?_⟩
  refine List.forall_mem_cons.mpr ⟨kq_180, ?_⟩
  refine List.forall_mem_cons.mpr ⟨kq_181, ?_⟩
  refine List.forall_mem_cons.mpr ⟨kq_182, ?_⟩
  refine List.forall_mem_cons.mpr ⟨kq_183, ?_⟩
  refine List.forall_mem_cons.mpr ⟨kq_184, ?_⟩
  refine List.forall_mem_cons.mpr ⟨kq_185, ?_⟩
  refine List.forall_mem_cons.mpr ⟨kq_186, ?_⟩
  refine List.forall_mem_cons.mpr ⟨kq_187, ?_⟩
  refine List.forall_mem_cons.mpr ⟨kq_188, ?_⟩
  refine List.forall_mem_cons.mpr ⟨kq_189, ?_⟩
  refine List.forall_mem_cons.mpr ⟨kq_190, ?_⟩
  refine List.forall_mem_cons.mpr ⟨kq_191, ?_⟩
  refine List.forall_mem_cons.mpr ⟨kq_192, ?_⟩
  refine List.forall_mem_cons.mpr ⟨kq_193, ?_⟩
  refine List.forall_mem_cons.mpr ⟨kq_194, ?_⟩
  refine List.forall_mem_cons.mpr ⟨kq_195, ?_⟩
  refine List.forall_mem_cons.mpr ⟨kq_196, ?_⟩
  refine List.forall_mem_cons.mpr ⟨kq_197, ?_⟩
  refine List.forall_mem_cons.mpr ⟨kq_198, ?_⟩
  refine List.forall_mem_cons.mpr ⟨kq_199, ?_⟩
  refine List.forall_mem_cons.mpr ⟨kq_200, ?_⟩
  refine List.forall_mem_cons.mpr ⟨kq_201, ?_⟩
  refine List.forall_mem_cons.mpr ⟨kq_202, ?_⟩
  refine List.forall_mem_cons.mpr ⟨kq_203, ?_⟩
  refine List.forall_mem_cons.mpr ⟨kq_204, ?_⟩
  refine List.forall_mem_cons.mpr ⟨kq_205, ?_⟩
  refine List.forall_mem_cons.mpr ⟨kq_206, ?_⟩
  refine List.forall_mem_cons.mpr ⟨kq_207, ?_⟩
  refine List.forall_mem_cons.mpr ⟨kq_208, ?_⟩
  refine List.forall_mem_cons.mpr ⟨kq_209, ?_⟩
  refine List.forall_mem_cons.mpr ⟨kq_210, ?_⟩
  refine List.forall_mem_cons.mpr ⟨kq_211, ?_⟩
  refine List.forall_mem_cons.mpr ⟨kq_212, ?_⟩
  refine List.forall_mem_cons.mpr ⟨kq_213, ?_⟩
  refine List.forall_mem_cons.mpr ⟨kq_214, ?_⟩
  refine List.forall_mem_cons.mpr ⟨kq_215, ?_⟩
  refine List.forall_mem_cons.mpr ⟨kq_216, ?_⟩
  refine List.forall_mem_cons.mpr ⟨kq_217, ?_⟩
  refine List.forall_mem_cons.mpr ⟨kq_218, ?_⟩
  refine List.forall_mem_cons.mpr ⟨kq_219, ?_⟩
  refine List.forall_mem_cons.mpr ⟨kq_220, ?_⟩
  refine List.forall_mem_cons.mpr ⟨kq_221, ?_⟩
  refine List.forall_mem_cons.mpr ⟨kq_222, ?_⟩
  refine List.forall_mem_cons.mpr ⟨kq_223, ?_⟩
  refine List.forall_mem_cons.mpr ⟨kq_224, ?_⟩
  refine List.forall_mem_cons.mpr ⟨kq_225, ?_⟩
  refine List.forall_mem_cons.mpr ⟨kq_226, ?_⟩
  refine List.forall_mem_cons.mpr ⟨kq_227, ?_⟩
  refine List.forall_mem_cons.mpr ⟨kq_228, ?_⟩
  refine List.forall_mem_cons.mpr ⟨kq_229, ?_⟩
  refine List.forall_mem_cons.mpr ⟨kq_230, ?_⟩
  exact fun _ h => absurd h List.not_mem_nil
end
section
/-! ===== A SMALL MACHINE OVER A PURE MEMORY: cells by number (0: the script; 1 .. n: what was made, in the order of making), ints, longs and references apart ===== -/
/-- how many cells, how many slots in all, tag and length of each cell -/
abbrev pm_W : Type := Nat × Nat × (Nat → Nat × Nat)
abbrev pm_M : Type := pm_W × (Nat → Nat → Int32) × (Nat → Nat → Int64) × (Nat → Nat → Option Nat)
abbrev pm_L : Type := List (Option Value)
def pm_u {α : Type} (f : Nat → Nat → α) (k j : Nat) (v : α) : Nat → Nat → α := fun a i => if a = k ∧ i = j then v else f a i
def pm_z {α : Type} (f : Nat → Nat → α) (lo hi : Nat) (v : α) : Nat → Nat → α := fun a i => if lo ≤ a ∧ a < hi then v else f a i
def pm_zr (f : Nat → Nat → Option Nat) (lo hi o m : Nat) : Nat → Nat → Option Nat := fun a i => if a = o ∧ i < m then some (o + 1 + i) else if lo ≤ a ∧ a < hi then none else f a i
def pm_at (q : pm_D) (pc : Nat) : Option (Instr × Nat) := q.2.2.2.2.2.lookup pc
def pm_cmp (c : Jvm.ClassFile.Cond) (x y : Int32) : Prop := match c with
  | .eq => x = y
  | .ne => ¬ x = y
  | .lt => x < y
  | .ge => y ≤ x
  | .gt => y < x
  | .le => x ≤ y
/-- no long lies over the place ahead of i -/
def pm_ok1 (ls : pm_L) (i : Nat) : Bool := match i with
  | 0 => true
  | i + 1 => match ls[i]? with
    | some (some (.long _)) => false
    | some (some (.double _)) => false
    | _ => true
/-- a cell that is there, by its tag -/
def pm_is (mem : pm_M) (k t : Nat) : Prop := 1 ≤ k ∧ k ≤ mem.1.1 ∧ (mem.1.2.2 k).1 = t
def pm_fv (mem : pm_M) (k c j : Nat) : Value := match c with
  | 0 => .int (mem.2.1 k j)
  | 1 => .long (mem.2.2.1 k j)
  | _ => va_rf (mem.2.2.2 k j)
/-- one more cell, of tag t and length len -/
def pm_new (mem : pm_M) (t len : Nat) : pm_M := ((mem.1.1 + 1, mem.1.2.1 + len, fun k => if k = mem.1.1 + 1 then (t, len) else mem.1.2.2 k), pm_z mem.2.1 (mem.1.1 + 1) (mem.1.1 + 2) 0, pm_z mem.2.2.1 (mem.1.1 + 1) (mem.1.1 + 2) 0, pm_z mem.2.2.2 (mem.1.1 + 1) (mem.1.1 + 2) none)
/-- a row of m rows of len ints -/
def pm_new2 (mem : pm_M) (m len : Nat) : pm_M := ((mem.1.1 + (1 + m), mem.1.2.1 + (m + m * len), fun k => if k = mem.1.1 + 1 then (27, m) else if mem.1.1 + 1 < k ∧ k ≤ mem.1.1 + (1 + m) then (20, len) else mem.1.2.2 k), pm_z mem.2.1 (mem.1.1 + 1) (mem.1.1 + (2 + m)) 0, pm_z mem.2.2.1 (mem.1.1 + 1) (mem.1.1 + (2 + m)) 0, pm_zr mem.2.2.2 (mem.1.1 + 1) (mem.1.1 + (2 + m)) (mem.1.1 + 1) m)
def pm_cpy (f : Nat → Nat → Int32) (a sp b dp n : Nat) : Nat → Nat → Int32 := fun k i => if k = b ∧ dp ≤ i ∧ i < dp + n then f a (sp + (i - dp)) else f k i
/-- links: (own class, entry, kind of call, receiver's tag, method, how many arguments) -/
abbrev pm_row : Type := Nat × Nat × Nat × Nat × Nat × Nat
/-- the tag of a new array of numbers -/
def pm_atag : ArrayType → Option Nat
  | .int => some 20
  | .byte => some 21
  | .boolean => some 22
  | _ => none
/-- how many bytes an instruction has (of the switches nothing is said) -/
def pm_len : Instr → Nat
  | .bipush _ | .ldc _ | .iload _ | .lload _ | .aload _ | .istore _ | .lstore _ | .astore _ | .newarray _ => 2
  | .sipush _ | .ldc_w _ | .ldc2_w _ | .iinc .. | .ifCond .. | .if_icmp .. | .goto _ | .getfield _ | .putfield _ | .new _ | .anewarray _ | .invokestatic _ | .invokevirtual _ | .invokespecial _ => 3
  | .multianewarray .. => 4
  | _ => 1
def pm_lok (ins : Instr) (len : Nat) : Prop := match ins with
  | .tableswitch .. => True
  | .lookupswitch .. => True
  | ins => len = pm_len ins
section PMX
variable (g : Nat → Prop) (C : Nat → List Value → pm_M → Option Value → pm_M → Prop) (E : Option Value → pm_M → Prop) (q : pm_D) (K : Nat → pm_L → List Value → pm_M → Prop)
/-- a call: arguments off the stack, the callee's answer onto it -/
def pm_call (i : Nat) (kinds : List Nat) (stat : Bool) (pc : Nat) (ls : pm_L) (st : List Value) (mem : pm_M) : Prop :=
  ∃ (kd tg M na : Nat) (As r : List Value) (v : Option Value) (mem' : pm_M), (q.2.1, i, kd, tg, M, na) ∈ k_cs ∧ kd ∈ kinds ∧ As.length = na ∧ (r.map fun v => v.category).sum ≤ 8 ∧
    ((stat = true ∧ st = As.reverse ++ r ∧ C M As mem v mem') ∨ (stat = false ∧ ∃ b, st = As.reverse ++ .ref b :: r ∧ pm_is mem b tg ∧ C M (.ref b :: As) mem v mem')) ∧ K (pc + 3) ls (v.toList ++ r) mem'
def pm_ex (pc : Nat) (ls : pm_L) (st : List Value) (mem : pm_M) (ins : Instr) : Prop := match ins with
  | .iconst n => K (pc + 1) ls (.int (Int32.ofInt n) :: st) mem
  | .bipush n => K (pc + 2) ls (.int (Int8.ofInt n).toInt32 :: st) mem
  | .sipush n => K (pc + 3) ls (.int (Int16.ofInt n).toInt32 :: st) mem
  | .lconst n => K (pc + 1) ls (.long (Int64.ofNat (n : Nat)) :: st) mem
  | .ldc i => (∃ v, (q.2.1, i, v) ∈ k_ci ∧ K (pc + 2) ls (.int v :: st) mem) ∨ ∃ k, (q.2.1, i, k) ∈ k_sx ∧ K (pc + 2) ls (.ref (1000000 + k) :: st) mem
  | .ldc_w i => ∃ v, (q.2.1, i, v) ∈ k_ci ∧ K (pc + 3) ls (.int v :: st) mem
  | .ldc2_w i => ∃ v, (q.2.1, i, v) ∈ k_c2 ∧ K (pc + 3) ls (.long v :: st) mem
  | .iload_n k => ∃ x, ls[(k : Nat)]? = some (some (.int x)) ∧ K (pc + 1) ls (.int x :: st) mem
  | .iload k => ∃ x, ls[k]? = some (some (.int x)) ∧ K (pc + 2) ls (.int x :: st) mem
  | .lload_n k => ∃ x, ls[(k : Nat)]? = some (some (.long x)) ∧ K (pc + 1) ls (.long x :: st) mem
  | .lload k => ∃ x, ls[k]? = some (some (.long x)) ∧ K (pc + 2) ls (.long x :: st) mem
  | .aload_n k => ∃ x, ls[(k : Nat)]? = some (some (.ref x)) ∧ K (pc + 1) ls (.ref x :: st) mem
  | .aload k => ∃ x, ls[k]? = some (some (.ref x)) ∧ K (pc + 2) ls (.ref x :: st) mem
  | .istore_n k => ∃ x r, st = .int x :: r ∧ pm_ok1 ls k = true ∧ (k : Nat) < q.2.2.2.1 ∧ K (pc + 1) (ls.set k (some (.int x))) r mem
  | .istore k => ∃ x r, st = .int x :: r ∧ pm_ok1 ls k = true ∧ k < q.2.2.2.1 ∧ K (pc + 2) (ls.set k (some (.int x))) r mem
  | .astore_n k => ∃ x r, st = .ref x :: r ∧ pm_ok1 ls k = true ∧ (k : Nat) < q.2.2.2.1 ∧ K (pc + 1) (ls.set k (some (.ref x))) r mem
  | .astore k => ∃ x r, st = .ref x :: r ∧ pm_ok1 ls k = true ∧ k < q.2.2.2.1 ∧ K (pc + 2) (ls.set k (some (.ref x))) r mem
  | .lstore_n k => ∃ x r, st = .long x :: r ∧ pm_ok1 ls k = true ∧ (k : Nat) + 1 < q.2.2.2.1 ∧ K (pc + 1) ((ls.set k (some (.long x))).set (k + 1) none) r mem
  | .lstore k => ∃ x r, st = .long x :: r ∧ pm_ok1 ls k = true ∧ k + 1 < q.2.2.2.1 ∧ K (pc + 2) ((ls.set k (some (.long x))).set (k + 1) none) r mem
  | .iinc k n => ∃ x, ls[k]? = some (some (.int x)) ∧ pm_ok1 ls k = true ∧ k < q.2.2.2.1 ∧ K (pc + 3) (ls.set k (some (.int (x + Int32.ofInt n)))) st mem
  | .iadd => ∃ x y r, st = .int y :: .int x :: r ∧ K (pc + 1) ls (.int (x + y) :: r) mem
  | .isub => ∃ x y r, st = .int y :: .int x :: r ∧ K (pc + 1) ls (.int (x - y) :: r) mem
  | .imul => ∃ x y r, st = .int y :: .int x :: r ∧ K (pc + 1) ls (.int (x * y) :: r) mem
  | .iand => ∃ x y r, st = .int y :: .int x :: r ∧ K (pc + 1) ls (.int (x &&& y) :: r) mem
  | .ior => ∃ x y r, st = .int y :: .int x :: r ∧ K (pc + 1) ls (.int (x ||| y) :: r) mem
  | .ixor => ∃ x y r, st = .int y :: .int x :: r ∧ K (pc + 1) ls (.int (x ^^^ y) :: r) mem
  | .ishl => ∃ x y r, st = .int y :: .int x :: r ∧ K (pc + 1) ls (.int (x <<< (y &&& 31)) :: r) mem
  | .ishr => ∃ x y r, st = .int y :: .int x :: r ∧ K (pc + 1) ls (.int (x >>> (y &&& 31)) :: r) mem
  | .iushr => ∃ x y r, st = .int y :: .int x :: r ∧ K (pc + 1) ls (.int ((x.toUInt32 >>> (y &&& 31).toUInt32).toInt32) :: r) mem
  | .ineg => ∃ x r, st = .int x :: r ∧ K (pc + 1) ls (.int (-x) :: r) mem
  | .idiv => ∃ x y r, st = .int y :: .int x :: r ∧ ¬ y = 0 ∧ K (pc + 1) ls (.int (x / y) :: r) mem
  | .irem => ∃ x y r, st = .int y :: .int x :: r ∧ ¬ y = 0 ∧ K (pc + 1) ls (.int (x - x / y * y) :: r) mem
  | .ladd => ∃ x y r, st = .long y :: .long x :: r ∧ K (pc + 1) ls (.long (x + y) :: r) mem
  | .lmul => ∃ x y r, st = .long y :: .long x :: r ∧ K (pc + 1) ls (.long (x * y) :: r) mem
  | .ldiv => ∃ x y r, st = .long y :: .long x :: r ∧ ¬ y = 0 ∧ K (pc + 1) ls (.long (x / y) :: r) mem
  | .lrem => ∃ x y r, st = .long y :: .long x :: r ∧ ¬ y = 0 ∧ K (pc + 1) ls (.long (x - x / y * y) :: r) mem
  | .lcmp => ∃ x y r, st = .long y :: .long x :: r ∧ K (pc + 1) ls (.int (lg_cmp x y) :: r) mem
  | .i2l => ∃ x r, st = .int x :: r ∧ K (pc + 1) ls (.long x.toInt64 :: r) mem
  | .l2i => ∃ x r, st = .long x :: r ∧ K (pc + 1) ls (.int x.toInt32 :: r) mem
  | .i2b => ∃ x r, st = .int x :: r ∧ K (pc + 1) ls (.int x.toInt8.toInt32 :: r) mem
  | .dup => ∃ v r, st = v :: r ∧ v.category = 1 ∧ K (pc + 1) ls (v :: v :: r) mem
  | .dup2 => ∃ v w r, st = v :: w :: r ∧ v.category = 1 ∧ w.category = 1 ∧ K (pc + 1) ls (v :: w :: v :: w :: r) mem
  | .pop => ∃ v r, st = v :: r ∧ v.category = 1 ∧ K (pc + 1) ls r mem
  | .ifCond c off => ∃ x r tgt, st = .int x :: r ∧ (pc : Int) + off = ((tgt : Nat) : Int) ∧ (pm_cmp c x 0 → K tgt ls r mem) ∧ (¬ pm_cmp c x 0 → K (pc + 3) ls r mem)
  | .if_icmp c off => ∃ x y r tgt, st = .int y :: .int x :: r ∧ (pc : Int) + off = ((tgt : Nat) : Int) ∧ (pm_cmp c x y → K tgt ls r mem) ∧ (¬ pm_cmp c x y → K (pc + 3) ls r mem)
  | .goto off => ∃ tgt : Nat, (pc : Int) + off = (tgt : Int) ∧ K tgt ls st mem
  | .tableswitch dflt lo hi offs => ∃ x r, st = .int x :: r ∧ ((∃ tgt : Nat, (x.toInt < lo ∨ hi < x.toInt) ∧ (pc : Int) + dflt = (tgt : Int) ∧ K tgt ls r mem) ∨ ∃ (off : Int) (tgt : Nat), ¬ x.toInt < lo ∧ ¬ hi < x.toInt ∧ offs[(x.toInt - lo).toNat]? = some off ∧ (pc : Int) + off = (tgt : Int) ∧ K tgt ls r mem)
  | .lookupswitch dflt ps => ∃ x r tgt, st = .int x :: r ∧ (ps.toList.zip (ps.toList.drop 1)).all (fun (a, next) => a.1 < next.1) = true ∧ (pc : Int) + Op.lookupswitch.offset ps.toList dflt x.toInt = ((tgt : Nat) : Int) ∧ K tgt ls r mem
  | .ireturn => ∃ v ty, st = [.int v] ∧ q.2.2.2.2.1 = some ty ∧ narrow ty (.int v) = .int v ∧ E (some (.int v)) mem
  | .lreturn => ∃ v, st = [.long v] ∧ q.2.2.2.2.1 = some .long ∧ E (some (.long v)) mem
  | .return_ => st = [] ∧ q.2.2.2.2.1 = none ∧ E none mem
  | .getfield i => ∃ k r c j, st = .ref k :: r ∧ (q.2.1, i, c, j) ∈ k_fd ∧ pm_is mem k c ∧ K (pc + 3) ls (pm_fv mem k (k_fc c j) j :: r) mem
  | .putfield i => ∃ v k r c j, st = v :: .ref k :: r ∧ (q.2.1, i, c, j) ∈ k_fd ∧ pm_is mem k c ∧ g k ∧ (k_fin c j = true → q.1.name = "<init>" ∧ q.2.1 = c) ∧
      ((∃ x, v = .int x ∧ k_fc c j = 0 ∧ K (pc + 3) ls r (mem.1, pm_u mem.2.1 k j x, mem.2.2)) ∨ (∃ x, v = .long x ∧ k_fc c j = 1 ∧ K (pc + 3) ls r (mem.1, mem.2.1, pm_u mem.2.2.1 k j x, mem.2.2.2)) ∨ ∃ a, v = .ref a ∧ k_fc c j = 2 ∧ K (pc + 3) ls r (mem.1, mem.2.1, mem.2.2.1, pm_u mem.2.2.2 k j (some a)))
  | .iaload => ∃ i k r, st = .int i :: .ref k :: r ∧ vp_in i (mem.1.2.2 k).2 ∧ (k = 0 ∨ pm_is mem k 20) ∧ K (pc + 1) ls (.int (mem.2.1 k i.toNatClampNeg) :: r) mem
  | .baload => ∃ i k r, st = .int i :: .ref k :: r ∧ vp_in i (mem.1.2.2 k).2 ∧ (pm_is mem k 21 ∨ pm_is mem k 22) ∧ K (pc + 1) ls (.int (mem.2.1 k i.toNatClampNeg) :: r) mem
  | .aaload => ∃ i k r t, st = .int i :: .ref k :: r ∧ vp_in i (mem.1.2.2 k).2 ∧ 23 ≤ t ∧ t ≤ 27 ∧ pm_is mem k t ∧ K (pc + 1) ls (va_rf (mem.2.2.2 k i.toNatClampNeg) :: r) mem
  | .iastore => ∃ x i k r, st = .int x :: .int i :: .ref k :: r ∧ vp_in i (mem.1.2.2 k).2 ∧ pm_is mem k 20 ∧ g k ∧ K (pc + 1) ls r (mem.1, pm_u mem.2.1 k i.toNatClampNeg x, mem.2.2)
  | .bastore => ∃ x i k r, st = .int x :: .int i :: .ref k :: r ∧ vp_in i (mem.1.2.2 k).2 ∧ g k ∧ ((pm_is mem k 21 ∧ K (pc + 1) ls r (mem.1, pm_u mem.2.1 k i.toNatClampNeg (vp_nar .byte x), mem.2.2)) ∨ (pm_is mem k 22 ∧ K (pc + 1) ls r (mem.1, pm_u mem.2.1 k i.toNatClampNeg (vp_nar .boolean x), mem.2.2)))
  | .aastore => ∃ a i k r t c, st = .ref a :: .int i :: .ref k :: r ∧ vp_in i (mem.1.2.2 k).2 ∧ pm_is mem k t ∧ pm_is mem a c ∧ (t, c) ∈ [(23, 4), (24, 2), (25, 3), (26, 8), (26, 6), (26, 0), (26, 1), (26, 5), (26, 10)] ∧ g k ∧ K (pc + 1) ls r (mem.1, mem.2.1, mem.2.2.1, pm_u mem.2.2.2 k i.toNatClampNeg (some a))
  | .arraylength => ∃ k r, st = .ref k :: r ∧ (k = 0 ∨ ∃ t, 20 ≤ t ∧ t ≤ 27 ∧ pm_is mem k t) ∧ K (pc + 1) ls (.int (Int32.ofNat (mem.1.2.2 k).2) :: r) mem
  | .new i => ∃ c, (q.2.1, i, c) ∈ k_nw ∧ c < 13 ∧ mem.1.1 + 2 < 1000000 ∧ K (pc + 3) ls (.ref (mem.1.1 + 1) :: st) (pm_new mem c (k_nf c))
  | .newarray t => ∃ x r tg, st = .int x :: r ∧ ¬ x < 0 ∧ x.toNatClampNeg ≤ 100000 ∧ pm_atag t = some tg ∧ mem.1.1 + 2 < 1000000 ∧ K (pc + 2) ls (.ref (mem.1.1 + 1) :: r) (pm_new mem tg x.toNatClampNeg)
  | .anewarray i => ∃ x r tg, st = .int x :: r ∧ ¬ x < 0 ∧ x.toNatClampNeg ≤ 100000 ∧ (q.2.1, i, tg) ∈ k_nw ∧ 23 ≤ tg ∧ tg ≤ 26 ∧ mem.1.1 + 2 < 1000000 ∧ K (pc + 3) ls (.ref (mem.1.1 + 1) :: r) (pm_new mem tg x.toNatClampNeg)
  | .multianewarray i d => ∃ x y r, d = 2 ∧ st = .int y :: .int x :: r ∧ ¬ x < 0 ∧ ¬ y < 0 ∧ x.toNatClampNeg ≤ 1000 ∧ y.toNatClampNeg ≤ 1000 ∧ (q.2.1, i, 27) ∈ k_nw ∧ mem.1.1 + 2 + x.toNatClampNeg < 1000000 ∧ K (pc + 4) ls (.ref (mem.1.1 + 1) :: r) (pm_new2 mem x.toNatClampNeg y.toNatClampNeg)
  | .invokestatic i => pm_call C q K i [0, 1] true pc ls st mem ∨
      (∃ a sp b dp n r, st = .int n :: .int dp :: .ref b :: .int sp :: .ref a :: r ∧ (q.2.1, i, 8, 0, 0, 5) ∈ k_cs ∧ pm_is mem a 20 ∧ pm_is mem b 20 ∧ g b ∧ ¬ sp < 0 ∧ ¬ dp < 0 ∧ ¬ n < 0 ∧ sp.toNatClampNeg + n.toNatClampNeg ≤ (mem.1.2.2 a).2 ∧ dp.toNatClampNeg + n.toNatClampNeg ≤ (mem.1.2.2 b).2 ∧ (r.map fun v => v.category).sum ≤ 8 ∧
        K (pc + 3) ls r (mem.1, pm_cpy mem.2.1 a sp.toNatClampNeg b dp.toNatClampNeg n.toNatClampNeg, mem.2.2)) ∨
      (∃ x y r, st = .int y :: .int x :: r ∧ (q.2.1, i, 10, 0, 0, 0) ∈ k_cs ∧ (r.map fun v => v.category).sum ≤ 8 ∧ K (pc + 3) ls (.int (if x < y then y else x) :: r) mem) ∨
      (∃ x y r, st = .int y :: .int x :: r ∧ (q.2.1, i, 11, 0, 0, 0) ∈ k_cs ∧ (r.map fun v => v.category).sum ≤ 8 ∧ K (pc + 3) ls (.int (if y < x then y else x) :: r) mem) ∨
      ∃ x r, st = .int x :: r ∧ (q.2.1, i, 12, 0, 0, 0) ∈ k_cs ∧ (r.map fun v => v.category).sum ≤ 8 ∧ K (pc + 3) ls (.int (if 0 ≤ x then x else 0 - x) :: r) mem
  | .invokevirtual i => pm_call C q K i [2, 3] false pc ls st mem
  | .invokespecial i => pm_call C q K i [4, 5, 6, 7] false pc ls st mem ∨ ∃ b r, st = .ref b :: r ∧ (q.2.1, i, 9, 0, 0, 0) ∈ k_cs ∧ (r.map fun v => v.category).sum ≤ 8 ∧ K (pc + 3) ls r mem
  | _ => False
def pm_run : Nat → Nat → pm_L → List Value → pm_M → Prop
  | 0, _, _, _, _ => False
  | f + 1, pc, ls, st, mem => ∃ ins len, pm_at q pc = some (ins, len) ∧ pm_lok ins len ∧ pm_ex g C E q (fun pc' ls' st' mem' => pm_run f pc' ls' st' mem') pc ls st mem ins
end PMX
end
section
/-! ===== runs of the small machine, goal first ===== -/
def pm_wd (k : Nat) : List Int32 := (k_wd.getD k "").toList.map fun c => Int32.ofNat c.toNat
/-- the one method that is taken by what it does, not by its code: Text.isWord of a constant text -/
def pm_bi (M : Nat) (args : List Value) (mem : pm_M) (r : Option Value) (mem' : pm_M) : Prop :=
  M = 53 ∧ ∃ t bb k, k < 5 ∧ args = [.ref t, .ref (1000000 + k)] ∧ pm_is mem t 7 ∧ mem.2.2.2 t 0 = some bb ∧ pm_is mem bb 21 ∧
    (mem.2.1 t 2 = 1 → mem.2.1 t 4 - mem.2.1 t 3 = nI (pm_wd k).length → ∀ i, i < (pm_wd k).length → vp_in (mem.2.1 t 3 + nI i) (mem.1.2.2 bb).2) ∧ mem' = mem ∧
    r = some (.int (if mem.2.1 t 2 = 1 ∧ mem.2.1 t 4 - mem.2.1 t 3 = nI (pm_wd k).length ∧ ∀ i, i < (pm_wd k).length → mem.2.1 bb (mem.2.1 t 3 + nI i).toNatClampNeg = (pm_wd k).getD i 0 then 1 else 0))
def pm_sl : List Value → pm_L
  | [] => []
  | v :: r => match v with
    | .long x => some (.long x) :: none :: pm_sl r
    | .double x => some (.double x) :: none :: pm_sl r
    | v => some v :: pm_sl r
def pm_en (args : List Value) (n : Nat) : pm_L := pm_sl args ++ List.replicate (n - (pm_sl args).length) none
def pm_ev (g : Nat → Prop) : Nat → Nat → List Value → pm_M → Option Value → pm_M → Prop
  | 0 => fun _ _ _ _ _ => False
  | d + 1 => fun M args mem r mem' => (7 ≤ d ∧ pm_bi M args mem r mem') ∨ ∃ q, pm_all[M]? = some q ∧ (pm_sl args).length ≤ q.2.2.2.1 ∧ ∃ f, pm_run g (pm_ev g d) (fun r1 m1 => r1 = r ∧ m1 = mem') q f 0 (pm_en args q.2.2.2.1) [] mem
def Ev (g : Nat → Prop) (C : Nat → List Value → pm_M → Option Value → pm_M → Prop) (E : Option Value → pm_M → Prop) (q : pm_D) (pc : Nat) (ls : pm_L) (st : List Value) (mem : pm_M) : Prop := ∃ f, pm_run g C E q f pc ls st mem
theorem ev_enter {g : Nat → Prop} {d M : Nat} {args : List Value} {mem mem' : pm_M} {r : Option Value} {q : pm_D} {ls : pm_L} (hq : pm_all[M]? = some q) (ha : (pm_sl args).length ≤ q.2.2.2.1) (hl : pm_en args q.2.2.2.1 = ls)
    (k : Ev g (pm_ev g d) (fun r1 m1 => r1 = r ∧ m1 = mem') q 0 ls [] mem) : pm_ev g (d + 1) M args mem r mem' := by
  obtain ⟨f, k⟩ := k
  subst hl
  exact Or.inr ⟨q, hq, ha, f, k⟩
section EV
variable {g : Nat → Prop} {C : Nat → List Value → pm_M → Option Value → pm_M → Prop} {E : Option Value → pm_M → Prop} {q : pm_D} {pc p' : Nat} {ls : pm_L} {r : List Value} {n z : Nat} {sh : Nat → Nat × Nat} {mi : Nat → Nat → Int32} {ml : Nat → Nat → Int64} {mr : Nat → Nat → Option Nat} {mem : pm_M}
theorem ev_iconst {i : Int} {v : Int32} (h : pm_at q pc = some (.iconst i, 1)) (hp : pc + 1 = p') (hv : Int32.ofInt i = v)
    (k : Ev g C E q p' ls (.int v :: r) mem) : Ev g C E q pc ls r mem := by
  subst hp
  obtain ⟨f, k⟩ := k
  exact ⟨f + 1, _, _, h, rfl, by subst hv; exact k⟩
theorem ev_bipush {i : Int} {v : Int32} (h : pm_at q pc = some (.bipush i, 2)) (hp : pc + 2 = p') (hv : (Int8.ofInt i).toInt32 = v)
    (k : Ev g C E q p' ls (.int v :: r) mem) : Ev g C E q pc ls r mem := by
  subst hp
  obtain ⟨f, k⟩ := k
  exact ⟨f + 1, _, _, h, rfl, by subst hv; exact k⟩
theorem ev_sipush {i : Int} {v : Int32} (h : pm_at q pc = some (.sipush i, 3)) (hp : pc + 3 = p') (hv : (Int16.ofInt i).toInt32 = v)
    (k : Ev g C E q p' ls (.int v :: r) mem) : Ev g C E q pc ls r mem := by
  subst hp
  obtain ⟨f, k⟩ := k
  exact ⟨f + 1, _, _, h, rfl, by subst hv; exact k⟩
theorem ev_lconst {i : Fin 2} {v : Int64} (h : pm_at q pc = some (.lconst i, 1)) (hp : pc + 1 = p') (hv : Int64.ofNat (i : Nat) = v)
    (k : Ev g C E q p' ls (.long v :: r) mem) : Ev g C E q pc ls r mem := by
  subst hp
  obtain ⟨f, k⟩ := k
  exact ⟨f + 1, _, _, h, rfl, by subst hv; exact k⟩
theorem ev_ldc {i : Nat} {v : Int32} (h : pm_at q pc = some (.ldc i, 2)) (hp : pc + 2 = p') (hc : (q.2.1, i, v) ∈ k_ci)
    (k : Ev g C E q p' ls (.int v :: r) mem) : Ev g C E q pc ls r mem := by
  subst hp
  obtain ⟨f, k⟩ := k
  exact ⟨f + 1, _, _, h, rfl, Or.inl ⟨v, hc, k⟩⟩
theorem ev_ldcs {i j : Nat} (h : pm_at q pc = some (.ldc i, 2)) (hp : pc + 2 = p') (hc : (q.2.1, i, j) ∈ k_sx)
    (k : Ev g C E q p' ls (.ref (1000000 + j) :: r) mem) : Ev g C E q pc ls r mem := by
  subst hp
  obtain ⟨f, k⟩ := k
  exact ⟨f + 1, _, _, h, rfl, Or.inr ⟨j, hc, k⟩⟩
theorem ev_ldc_w {i : Nat} {v : Int32} (h : pm_at q pc = some (.ldc_w i, 3)) (hp : pc + 3 = p') (hc : (q.2.1, i, v) ∈ k_ci)
    (k : Ev g C E q p' ls (.int v :: r) mem) : Ev g C E q pc ls r mem := by
  subst hp
  obtain ⟨f, k⟩ := k
  exact ⟨f + 1, _, _, h, rfl, ⟨v, hc, k⟩⟩
theorem ev_ldc2_w {i : Nat} {v : Int64} (h : pm_at q pc = some (.ldc2_w i, 3)) (hp : pc + 3 = p') (hc : (q.2.1, i, v) ∈ k_c2)
    (k : Ev g C E q p' ls (.long v :: r) mem) : Ev g C E q pc ls r mem := by
  subst hp
  obtain ⟨f, k⟩ := k
  exact ⟨f + 1, _, _, h, rfl, ⟨v, hc, k⟩⟩
theorem ev_iload_n {i : Fin 4} {x : Int32} (h : pm_at q pc = some (.iload_n i, 1)) (hp : pc + 1 = p') (hl : ls[(i : Nat)]? = some (some (.int x)))
    (k : Ev g C E q p' ls (.int x :: r) mem) : Ev g C E q pc ls r mem := by
  subst hp
  obtain ⟨f, k⟩ := k
  exact ⟨f + 1, _, _, h, rfl, ⟨x, hl, k⟩⟩
theorem ev_iload {i : Nat} {x : Int32} (h : pm_at q pc = some (.iload i, 2)) (hp : pc + 2 = p') (hl : ls[i]? = some (some (.int x)))
    (k : Ev g C E q p' ls (.int x :: r) mem) : Ev g C E q pc ls r mem := by
  subst hp
  obtain ⟨f, k⟩ := k
  exact ⟨f + 1, _, _, h, rfl, ⟨x, hl, k⟩⟩
theorem ev_istore_n {i : Fin 4} {x : Int32} {ls' : pm_L} (h : pm_at q pc = some (.istore_n i, 1)) (hp : pc + 1 = p') (ho : pm_ok1 ls i = true) (hn : (i : Nat) < q.2.2.2.1) (hl : ls.set i (some (.int x)) = ls')
    (k : Ev g C E q p' ls' r mem) : Ev g C E q pc ls (.int x :: r) mem := by
  subst hp
  obtain ⟨f, k⟩ := k
  exact ⟨f + 1, _, _, h, rfl, ⟨x, r, rfl, ho, hn, hl ▸ k⟩⟩
theorem ev_istore {i : Nat} {x : Int32} {ls' : pm_L} (h : pm_at q pc = some (.istore i, 2)) (hp : pc + 2 = p') (ho : pm_ok1 ls i = true) (hn : i < q.2.2.2.1) (hl : ls.set i (some (.int x)) = ls')
    (k : Ev g C E q p' ls' r mem) : Ev g C E q pc ls (.int x :: r) mem := by
  subst hp
  obtain ⟨f, k⟩ := k
  exact ⟨f + 1, _, _, h, rfl, ⟨x, r, rfl, ho, hn, hl ▸ k⟩⟩
theorem ev_lload_n {i : Fin 4} {x : Int64} (h : pm_at q pc = some (.lload_n i, 1)) (hp : pc + 1 = p') (hl : ls[(i : Nat)]? = some (some (.long x)))
    (k : Ev g C E q p' ls (.long x :: r) mem) : Ev g C E q pc ls r mem := by
  subst hp
  obtain ⟨f, k⟩ := k
  exact ⟨f + 1, _, _, h, rfl, ⟨x, hl, k⟩⟩
theorem ev_lload {i : Nat} {x : Int64} (h : pm_at q pc = some (.lload i, 2)) (hp : pc + 2 = p') (hl : ls[i]? = some (some (.long x)))
    (k : Ev g C E q p' ls (.long x :: r) mem) : Ev g C E q pc ls r mem := by
  subst hp
  obtain ⟨f, k⟩ := k
  exact ⟨f + 1, _, _, h, rfl, ⟨x, hl, k⟩⟩
theorem ev_lstore_n {i : Fin 4} {x : Int64} {ls' : pm_L} (h : pm_at q pc = some (.lstore_n i, 1)) (hp : pc + 1 = p') (ho : pm_ok1 ls i = true) (hn : (i : Nat) + 1 < q.2.2.2.1) (hl : (ls.set i (some (.long x))).set (i + 1) none = ls')
    (k : Ev g C E q p' ls' r mem) : Ev g C E q pc ls (.long x :: r) mem := by
  subst hp
  obtain ⟨f, k⟩ := k
  exact ⟨f + 1, _, _, h, rfl, ⟨x, r, rfl, ho, hn, hl ▸ k⟩⟩
theorem ev_lstore {i : Nat} {x : Int64} {ls' : pm_L} (h : pm_at q pc = some (.lstore i, 2)) (hp : pc + 2 = p') (ho : pm_ok1 ls i = true) (hn : i + 1 < q.2.2.2.1) (hl : (ls.set i (some (.long x))).set (i + 1) none = ls')
    (k : Ev g C E q p' ls' r mem) : Ev g C E q pc ls (.long x :: r) mem := by
  subst hp
  obtain ⟨f, k⟩ := k
  exact ⟨f + 1, _, _, h, rfl, ⟨x, r, rfl, ho, hn, hl ▸ k⟩⟩
theorem ev_aload_n {i : Fin 4} {x : Nat} (h : pm_at q pc = some (.aload_n i, 1)) (hp : pc + 1 = p') (hl : ls[(i : Nat)]? = some (some (.ref x)))
    (k : Ev g C E q p' ls (.ref x :: r) mem) : Ev g C E q pc ls r mem := by
  subst hp
  obtain ⟨f, k⟩ := k
  exact ⟨f + 1, _, _, h, rfl, ⟨x, hl, k⟩⟩
theorem ev_aload {i : Nat} {x : Nat} (h : pm_at q pc = some (.aload i, 2)) (hp : pc + 2 = p') (hl : ls[i]? = some (some (.ref x)))
    (k : Ev g C E q p' ls (.ref x :: r) mem) : Ev g C E q pc ls r mem := by
  subst hp
  obtain ⟨f, k⟩ := k
  exact ⟨f + 1, _, _, h, rfl, ⟨x, hl, k⟩⟩
theorem ev_astore_n {i : Fin 4} {x : Nat} {ls' : pm_L} (h : pm_at q pc = some (.astore_n i, 1)) (hp : pc + 1 = p') (ho : pm_ok1 ls i = true) (hn : (i : Nat) < q.2.2.2.1) (hl : ls.set i (some (.ref x)) = ls')
    (k : Ev g C E q p' ls' r mem) : Ev g C E q pc ls (.ref x :: r) mem := by
  subst hp
  obtain ⟨f, k⟩ := k
  exact ⟨f + 1, _, _, h, rfl, ⟨x, r, rfl, ho, hn, hl ▸ k⟩⟩
theorem ev_astore {i : Nat} {x : Nat} {ls' : pm_L} (h : pm_at q pc = some (.astore i, 2)) (hp : pc + 2 = p') (ho : pm_ok1 ls i = true) (hn : i < q.2.2.2.1) (hl : ls.set i (some (.ref x)) = ls')
    (k : Ev g C E q p' ls' r mem) : Ev g C E q pc ls (.ref x :: r) mem := by
  subst hp
  obtain ⟨f, k⟩ := k
  exact ⟨f + 1, _, _, h, rfl, ⟨x, r, rfl, ho, hn, hl ▸ k⟩⟩
theorem ev_iinc {i : Nat} {c : Int} {x v : Int32} {ls' : pm_L} (h : pm_at q pc = some (.iinc i c, 3)) (hp : pc + 3 = p') (hg : ls[i]? = some (some (.int x))) (ho : pm_ok1 ls i = true) (hn : i < q.2.2.2.1) (hv : x + Int32.ofInt c = v) (hl : ls.set i (some (.int v)) = ls')
    (k : Ev g C E q p' ls' r mem) : Ev g C E q pc ls r mem := by
  subst hp
  obtain ⟨f, k⟩ := k
  exact ⟨f + 1, _, _, h, rfl, ⟨x, hg, ho, hn, by rw [hv, hl]; exact k⟩⟩
theorem ev_iadd {x y : Int32} (h : pm_at q pc = some (.iadd, 1)) (hp : pc + 1 = p') 
    (k : Ev g C E q p' ls (.int (x + y) :: r) mem) : Ev g C E q pc ls (.int y :: .int x :: r) mem := by
  subst hp
  obtain ⟨f, k⟩ := k
  exact ⟨f + 1, _, _, h, rfl, ⟨x, y, r, rfl, k⟩⟩
theorem ev_isub {x y : Int32} (h : pm_at q pc = some (.isub, 1)) (hp : pc + 1 = p') 
    (k : Ev g C E q p' ls (.int (x - y) :: r) mem) : Ev g C E q pc ls (.int y :: .int x :: r) mem := by
  subst hp
  obtain ⟨f, k⟩ := k
  exact ⟨f + 1, _, _, h, rfl, ⟨x, y, r, rfl, k⟩⟩
theorem ev_imul {x y : Int32} (h : pm_at q pc = some (.imul, 1)) (hp : pc + 1 = p') 
    (k : Ev g C E q p' ls (.int (x * y) :: r) mem) : Ev g C E q pc ls (.int y :: .int x :: r) mem := by
  subst hp
  obtain ⟨f, k⟩ := k
  exact ⟨f + 1, _, _, h, rfl, ⟨x, y, r, rfl, k⟩⟩
theorem ev_iand {x y : Int32} (h : pm_at q pc = some (.iand, 1)) (hp : pc + 1 = p') 
    (k : Ev g C E q p' ls (.int (x &&& y) :: r) mem) : Ev g C E q pc ls (.int y :: .int x :: r) mem := by
  subst hp
  obtain ⟨f, k⟩ := k
  exact ⟨f + 1, _, _, h, rfl, ⟨x, y, r, rfl, k⟩⟩
theorem ev_ior {x y : Int32} (h : pm_at q pc = some (.ior, 1)) (hp : pc + 1 = p') 
    (k : Ev g C E q p' ls (.int (x ||| y) :: r) mem) : Ev g C E q pc ls (.int y :: .int x :: r) mem := by
  subst hp
  obtain ⟨f, k⟩ := k
  exact ⟨f + 1, _, _, h, rfl, ⟨x, y, r, rfl, k⟩⟩
theorem ev_ixor {x y : Int32} (h : pm_at q pc = some (.ixor, 1)) (hp : pc + 1 = p') 
    (k : Ev g C E q p' ls (.int (x ^^^ y) :: r) mem) : Ev g C E q pc ls (.int y :: .int x :: r) mem := by
  subst hp
  obtain ⟨f, k⟩ := k
  exact ⟨f + 1, _, _, h, rfl, ⟨x, y, r, rfl, k⟩⟩
theorem ev_ishl {x y : Int32} (h : pm_at q pc = some (.ishl, 1)) (hp : pc + 1 = p') 
    (k : Ev g C E q p' ls (.int (x <<< (y &&& 31)) :: r) mem) : Ev g C E q pc ls (.int y :: .int x :: r) mem := by
  subst hp
  obtain ⟨f, k⟩ := k
  exact ⟨f + 1, _, _, h, rfl, ⟨x, y, r, rfl, k⟩⟩
theorem ev_ishr {x y : Int32} (h : pm_at q pc = some (.ishr, 1)) (hp : pc + 1 = p') 
    (k : Ev g C E q p' ls (.int (x >>> (y &&& 31)) :: r) mem) : Ev g C E q pc ls (.int y :: .int x :: r) mem := by
  subst hp
  obtain ⟨f, k⟩ := k
  exact ⟨f + 1, _, _, h, rfl, ⟨x, y, r, rfl, k⟩⟩
theorem ev_iushr {x y : Int32} (h : pm_at q pc = some (.iushr, 1)) (hp : pc + 1 = p') 
    (k : Ev g C E q p' ls (.int ((x.toUInt32 >>> (y &&& 31).toUInt32).toInt32) :: r) mem) : Ev g C E q pc ls (.int y :: .int x :: r) mem := by
  subst hp
  obtain ⟨f, k⟩ := k
  exact ⟨f + 1, _, _, h, rfl, ⟨x, y, r, rfl, k⟩⟩
theorem ev_idiv {x y : Int32} (h : pm_at q pc = some (.idiv, 1)) (hp : pc + 1 = p') (hy : ¬ y = 0)
    (k : Ev g C E q p' ls (.int (x / y) :: r) mem) : Ev g C E q pc ls (.int y :: .int x :: r) mem := by
  subst hp
  obtain ⟨f, k⟩ := k
  exact ⟨f + 1, _, _, h, rfl, ⟨x, y, r, rfl, hy, k⟩⟩
theorem ev_irem {x y : Int32} (h : pm_at q pc = some (.irem, 1)) (hp : pc + 1 = p') (hy : ¬ y = 0)
    (k : Ev g C E q p' ls (.int (x - x / y * y) :: r) mem) : Ev g C E q pc ls (.int y :: .int x :: r) mem := by
  subst hp
  obtain ⟨f, k⟩ := k
  exact ⟨f + 1, _, _, h, rfl, ⟨x, y, r, rfl, hy, k⟩⟩
theorem ev_ladd {x y : Int64} (h : pm_at q pc = some (.ladd, 1)) (hp : pc + 1 = p') 
    (k : Ev g C E q p' ls (.long (x + y) :: r) mem) : Ev g C E q pc ls (.long y :: .long x :: r) mem := by
  subst hp
  obtain ⟨f, k⟩ := k
  exact ⟨f + 1, _, _, h, rfl, ⟨x, y, r, rfl, k⟩⟩
theorem ev_lmul {x y : Int64} (h : pm_at q pc = some (.lmul, 1)) (hp : pc + 1 = p') 
    (k : Ev g C E q p' ls (.long (x * y) :: r) mem) : Ev g C E q pc ls (.long y :: .long x :: r) mem := by
  subst hp
  obtain ⟨f, k⟩ := k
  exact ⟨f + 1, _, _, h, rfl, ⟨x, y, r, rfl, k⟩⟩
theorem ev_ldiv {x y : Int64} (h : pm_at q pc = some (.ldiv, 1)) (hp : pc + 1 = p') (hy : ¬ y = 0)
    (k : Ev g C E q p' ls (.long (x / y) :: r) mem) : Ev g C E q pc ls (.long y :: .long x :: r) mem := by
  subst hp
  obtain ⟨f, k⟩ := k
  exact ⟨f + 1, _, _, h, rfl, ⟨x, y, r, rfl, hy, k⟩⟩
theorem ev_lrem {x y : Int64} (h : pm_at q pc = some (.lrem, 1)) (hp : pc + 1 = p') (hy : ¬ y = 0)
    (k : Ev g C E q p' ls (.long (x - x / y * y) :: r) mem) : Ev g C E q pc ls (.long y :: .long x :: r) mem := by
  subst hp
  obtain ⟨f, k⟩ := k
  exact ⟨f + 1, _, _, h, rfl, ⟨x, y, r, rfl, hy, k⟩⟩
theorem ev_lcmp {x y : Int64} (h : pm_at q pc = some (.lcmp, 1)) (hp : pc + 1 = p') 
    (k : Ev g C E q p' ls (.int (lg_cmp x y) :: r) mem) : Ev g C E q pc ls (.long y :: .long x :: r) mem := by
  subst hp
  obtain ⟨f, k⟩ := k
  exact ⟨f + 1, _, _, h, rfl, ⟨x, y, r, rfl, k⟩⟩
theorem ev_ineg {x : Int32} (h : pm_at q pc = some (.ineg, 1)) (hp : pc + 1 = p') 
    (k : Ev g C E q p' ls (.int (-x) :: r) mem) : Ev g C E q pc ls (.int x :: r) mem := by
  subst hp
  obtain ⟨f, k⟩ := k
  exact ⟨f + 1, _, _, h, rfl, ⟨x, r, rfl, k⟩⟩
theorem ev_i2l {x : Int32} (h : pm_at q pc = some (.i2l, 1)) (hp : pc + 1 = p') 
    (k : Ev g C E q p' ls (.long x.toInt64 :: r) mem) : Ev g C E q pc ls (.int x :: r) mem := by
  subst hp
  obtain ⟨f, k⟩ := k
  exact ⟨f + 1, _, _, h, rfl, ⟨x, r, rfl, k⟩⟩
theorem ev_l2i {x : Int64} (h : pm_at q pc = some (.l2i, 1)) (hp : pc + 1 = p') 
    (k : Ev g C E q p' ls (.int x.toInt32 :: r) mem) : Ev g C E q pc ls (.long x :: r) mem := by
  subst hp
  obtain ⟨f, k⟩ := k
  exact ⟨f + 1, _, _, h, rfl, ⟨x, r, rfl, k⟩⟩
theorem ev_i2b {x : Int32} (h : pm_at q pc = some (.i2b, 1)) (hp : pc + 1 = p') 
    (k : Ev g C E q p' ls (.int x.toInt8.toInt32 :: r) mem) : Ev g C E q pc ls (.int x :: r) mem := by
  subst hp
  obtain ⟨f, k⟩ := k
  exact ⟨f + 1, _, _, h, rfl, ⟨x, r, rfl, k⟩⟩
theorem ev_dup {v : Value} (h : pm_at q pc = some (.dup, 1)) (hp : pc + 1 = p') (hv : v.category = 1)
    (k : Ev g C E q p' ls (v :: v :: r) mem) : Ev g C E q pc ls (v :: r) mem := by
  subst hp
  obtain ⟨f, k⟩ := k
  exact ⟨f + 1, _, _, h, rfl, ⟨v, r, rfl, hv, k⟩⟩
theorem ev_dup2 {v w : Value} (h : pm_at q pc = some (.dup2, 1)) (hp : pc + 1 = p') (hv : v.category = 1) (hw : w.category = 1)
    (k : Ev g C E q p' ls (v :: w :: v :: w :: r) mem) : Ev g C E q pc ls (v :: w :: r) mem := by
  subst hp
  obtain ⟨f, k⟩ := k
  exact ⟨f + 1, _, _, h, rfl, ⟨v, w, r, rfl, hv, hw, k⟩⟩
theorem ev_pop {v : Value} (h : pm_at q pc = some (.pop, 1)) (hp : pc + 1 = p') (hv : v.category = 1)
    (k : Ev g C E q p' ls r mem) : Ev g C E q pc ls (v :: r) mem := by
  subst hp
  obtain ⟨f, k⟩ := k
  exact ⟨f + 1, _, _, h, rfl, ⟨v, r, rfl, hv, k⟩⟩
theorem ev_icmp_eq {x y : Int32} {off : Int} {tg : Nat} (h : pm_at q pc = some (.if_icmp .eq off, 3)) (hp : pc + 3 = p') (ht : (pc : Int) + off = (tg : Int)) (kt : x = y → Ev g C E q tg ls r mem) (kf : ¬ (x = y) → Ev g C E q p' ls r mem) : Ev g C E q pc ls (.int y :: .int x :: r) mem := by
  subst hp
  by_cases hc : x = y
  · obtain ⟨f, k⟩ := kt hc
    exact ⟨f + 1, _, _, h, rfl, x, y, r, tg, rfl, ht, fun _ => k, fun hn => absurd hc hn⟩
  · obtain ⟨f, k⟩ := kf hc
    exact ⟨f + 1, _, _, h, rfl, x, y, r, tg, rfl, ht, fun hn => absurd hn hc, fun _ => k⟩
theorem ev_if_eq {x : Int32} {off : Int} {tg : Nat} (h : pm_at q pc = some (.ifCond .eq off, 3)) (hp : pc + 3 = p') (ht : (pc : Int) + off = (tg : Int)) (kt : x = 0 → Ev g C E q tg ls r mem) (kf : ¬ (x = 0) → Ev g C E q p' ls r mem) : Ev g C E q pc ls (.int x :: r) mem := by
  subst hp
  by_cases hc : x = 0
  · obtain ⟨f, k⟩ := kt hc
    exact ⟨f + 1, _, _, h, rfl, x, r, tg, rfl, ht, fun _ => k, fun hn => absurd hc hn⟩
  · obtain ⟨f, k⟩ := kf hc
    exact ⟨f + 1, _, _, h, rfl, x, r, tg, rfl, ht, fun hn => absurd hn hc, fun _ => k⟩
theorem ev_icmp_ne {x y : Int32} {off : Int} {tg : Nat} (h : pm_at q pc = some (.if_icmp .ne off, 3)) (hp : pc + 3 = p') (ht : (pc : Int) + off = (tg : Int)) (kt : ¬ x = y → Ev g C E q tg ls r mem) (kf : ¬ (¬ x = y) → Ev g C E q p' ls r mem) : Ev g C E q pc ls (.int y :: .int x :: r) mem := by
  subst hp
  by_cases hc : ¬ x = y
  · obtain ⟨f, k⟩ := kt hc
    exact ⟨f + 1, _, _, h, rfl, x, y, r, tg, rfl, ht, fun _ => k, fun hn => absurd hc hn⟩
  · obtain ⟨f, k⟩ := kf hc
    exact ⟨f + 1, _, _, h, rfl, x, y, r, tg, rfl, ht, fun hn => absurd hn hc, fun _ => k⟩
theorem ev_if_ne {x : Int32} {off : Int} {tg : Nat} (h : pm_at q pc = some (.ifCond .ne off, 3)) (hp : pc + 3 = p') (ht : (pc : Int) + off = (tg : Int)) (kt : ¬ x = 0 → Ev g C E q tg ls r mem) (kf : ¬ (¬ x = 0) → Ev g C E q p' ls r mem) : Ev g C E q pc ls (.int x :: r) mem := by
  subst hp
  by_cases hc : ¬ x = 0
  · obtain ⟨f, k⟩ := kt hc
    exact ⟨f + 1, _, _, h, rfl, x, r, tg, rfl, ht, fun _ => k, fun hn => absurd hc hn⟩
  · obtain ⟨f, k⟩ := kf hc
    exact ⟨f + 1, _, _, h, rfl, x, r, tg, rfl, ht, fun hn => absurd hn hc, fun _ => k⟩
theorem ev_icmp_lt {x y : Int32} {off : Int} {tg : Nat} (h : pm_at q pc = some (.if_icmp .lt off, 3)) (hp : pc + 3 = p') (ht : (pc : Int) + off = (tg : Int)) (kt : x < y → Ev g C E q tg ls r mem) (kf : ¬ (x < y) → Ev g C E q p' ls r mem) : Ev g C E q pc ls (.int y :: .int x :: r) mem := by
  subst hp
  by_cases hc : x < y
  · obtain ⟨f, k⟩ := kt hc
    exact ⟨f + 1, _, _, h, rfl, x, y, r, tg, rfl, ht, fun _ => k, fun hn => absurd hc hn⟩
  · obtain ⟨f, k⟩ := kf hc
    exact ⟨f + 1, _, _, h, rfl, x, y, r, tg, rfl, ht, fun hn => absurd hn hc, fun _ => k⟩
theorem ev_if_lt {x : Int32} {off : Int} {tg : Nat} (h : pm_at q pc = some (.ifCond .lt off, 3)) (hp : pc + 3 = p') (ht : (pc : Int) + off = (tg : Int)) (kt : x < 0 → Ev g C E q tg ls r mem) (kf : ¬ (x < 0) → Ev g C E q p' ls r mem) : Ev g C E q pc ls (.int x :: r) mem := by
  subst hp
  by_cases hc : x < 0
  · obtain ⟨f, k⟩ := kt hc
    exact ⟨f + 1, _, _, h, rfl, x, r, tg, rfl, ht, fun _ => k, fun hn => absurd hc hn⟩
  · obtain ⟨f, k⟩ := kf hc
    exact ⟨f + 1, _, _, h, rfl, x, r, tg, rfl, ht, fun hn => absurd hn hc, fun _ => k⟩
theorem ev_icmp_ge {x y : Int32} {off : Int} {tg : Nat} (h : pm_at q pc = some (.if_icmp .ge off, 3)) (hp : pc + 3 = p') (ht : (pc : Int) + off = (tg : Int)) (kt : y ≤ x → Ev g C E q tg ls r mem) (kf : ¬ (y ≤ x) → Ev g C E q p' ls r mem) : Ev g C E q pc ls (.int y :: .int x :: r) mem := by
  subst hp
  by_cases hc : y ≤ x
  · obtain ⟨f, k⟩ := kt hc
    exact ⟨f + 1, _, _, h, rfl, x, y, r, tg, rfl, ht, fun _ => k, fun hn => absurd hc hn⟩
  · obtain ⟨f, k⟩ := kf hc
    exact ⟨f + 1, _, _, h, rfl, x, y, r, tg, rfl, ht, fun hn => absurd hn hc, fun _ => k⟩
theorem ev_if_ge {x : Int32} {off : Int} {tg : Nat} (h : pm_at q pc = some (.ifCond .ge off, 3)) (hp : pc + 3 = p') (ht : (pc : Int) + off = (tg : Int)) (kt : 0 ≤ x → Ev g C E q tg ls r mem) (kf : ¬ (0 ≤ x) → Ev g C E q p' ls r mem) : Ev g C E q pc ls (.int x :: r) mem := by
  subst hp
  by_cases hc : 0 ≤ x
  · obtain ⟨f, k⟩ := kt hc
    exact ⟨f + 1, _, _, h, rfl, x, r, tg, rfl, ht, fun _ => k, fun hn => absurd hc hn⟩
  · obtain ⟨f, k⟩ := kf hc
    exact ⟨f + 1, _, _, h, rfl, x, r, tg, rfl, ht, fun hn => absurd hn hc, fun _ => k⟩
theorem ev_icmp_gt {x y : Int32} {off : Int} {tg : Nat} (h : pm_at q pc = some (.if_icmp .gt off, 3)) (hp : pc + 3 = p') (ht : (pc : Int) + off = (tg : Int)) (kt : y < x → Ev g C E q tg ls r mem) (kf : ¬ (y < x) → Ev g C E q p' ls r mem) : Ev g C E q pc ls (.int y :: .int x :: r) mem := by
  subst hp
  by_cases hc : y < x
  · obtain ⟨f, k⟩ := kt hc
    exact ⟨f + 1, _, _, h, rfl, x, y, r, tg, rfl, ht, fun _ => k, fun hn => absurd hc hn⟩
  · obtain ⟨f, k⟩ := kf hc
    exact ⟨f + 1, _, _, h, rfl, x, y, r, tg, rfl, ht, fun hn => absurd hn hc, fun _ => k⟩
theorem ev_if_gt {x : Int32} {off : Int} {tg : Nat} (h : pm_at q pc = some (.ifCond .gt off, 3)) (hp : pc + 3 = p') (ht : (pc : Int) + off = (tg : Int)) (kt : 0 < x → Ev g C E q tg ls r mem) (kf : ¬ (0 < x) → Ev g C E q p' ls r mem) : Ev g C E q pc ls (.int x :: r) mem := by
  subst hp
  by_cases hc : 0 < x
  · obtain ⟨f, k⟩ := kt hc
    exact ⟨f + 1, _, _, h, rfl, x, r, tg, rfl, ht, fun _ => k, fun hn => absurd hc hn⟩
  · obtain ⟨f, k⟩ := kf hc
    exact ⟨f + 1, _, _, h, rfl, x, r, tg, rfl, ht, fun hn => absurd hn hc, fun _ => k⟩
theorem ev_icmp_le {x y : Int32} {off : Int} {tg : Nat} (h : pm_at q pc = some (.if_icmp .le off, 3)) (hp : pc + 3 = p') (ht : (pc : Int) + off = (tg : Int)) (kt : x ≤ y → Ev g C E q tg ls r mem) (kf : ¬ (x ≤ y) → Ev g C E q p' ls r mem) : Ev g C E q pc ls (.int y :: .int x :: r) mem := by
  subst hp
  by_cases hc : x ≤ y
  · obtain ⟨f, k⟩ := kt hc
    exact ⟨f + 1, _, _, h, rfl, x, y, r, tg, rfl, ht, fun _ => k, fun hn => absurd hc hn⟩
  · obtain ⟨f, k⟩ := kf hc
    exact ⟨f + 1, _, _, h, rfl, x, y, r, tg, rfl, ht, fun hn => absurd hn hc, fun _ => k⟩
theorem ev_if_le {x : Int32} {off : Int} {tg : Nat} (h : pm_at q pc = some (.ifCond .le off, 3)) (hp : pc + 3 = p') (ht : (pc : Int) + off = (tg : Int)) (kt : x ≤ 0 → Ev g C E q tg ls r mem) (kf : ¬ (x ≤ 0) → Ev g C E q p' ls r mem) : Ev g C E q pc ls (.int x :: r) mem := by
  subst hp
  by_cases hc : x ≤ 0
  · obtain ⟨f, k⟩ := kt hc
    exact ⟨f + 1, _, _, h, rfl, x, r, tg, rfl, ht, fun _ => k, fun hn => absurd hc hn⟩
  · obtain ⟨f, k⟩ := kf hc
    exact ⟨f + 1, _, _, h, rfl, x, r, tg, rfl, ht, fun hn => absurd hn hc, fun _ => k⟩
theorem ev_goto {off : Int} {tg : Nat} {st : List Value} (h : pm_at q pc = some (.goto off, 3)) (ht : (pc : Int) + off = (tg : Int)) (k : Ev g C E q tg ls st mem) : Ev g C E q pc ls st mem := by
  obtain ⟨f, k⟩ := k
  exact ⟨f + 1, _, _, h, rfl, tg, ht, k⟩
theorem ev_tsOut {x : Int32} {dflt lo hi : Int} {offs : Array Int} {len tg : Nat} (h : pm_at q pc = some (.tableswitch dflt lo hi offs, len)) (hc : x.toInt < lo ∨ hi < x.toInt) (ht : (pc : Int) + dflt = (tg : Int)) (k : Ev g C E q tg ls r mem) : Ev g C E q pc ls (.int x :: r) mem := by
  obtain ⟨f, k⟩ := k
  exact ⟨f + 1, _, _, h, trivial, x, r, rfl, Or.inl ⟨tg, hc, ht, k⟩⟩
theorem ev_tsIn {x : Int32} {dflt lo hi off : Int} {offs : Array Int} {len tg : Nat} (h : pm_at q pc = some (.tableswitch dflt lo hi offs, len)) (h1 : ¬ x.toInt < lo) (h2 : ¬ hi < x.toInt) (ho : offs[(x.toInt - lo).toNat]? = some off) (ht : (pc : Int) + off = (tg : Int)) (k : Ev g C E q tg ls r mem) : Ev g C E q pc ls (.int x :: r) mem := by
  obtain ⟨f, k⟩ := k
  exact ⟨f + 1, _, _, h, trivial, x, r, rfl, Or.inr ⟨off, tg, h1, h2, ho, ht, k⟩⟩
theorem ev_ls {x : Int32} {dflt : Int} {ps : Array (Int × Int)} {len tg : Nat} (h : pm_at q pc = some (.lookupswitch dflt ps, len)) (hs : (ps.toList.zip (ps.toList.drop 1)).all (fun (a, next) => a.1 < next.1) = true) (ht : (pc : Int) + Op.lookupswitch.offset ps.toList dflt x.toInt = (tg : Int)) (k : Ev g C E q tg ls r mem) : Ev g C E q pc ls (.int x :: r) mem := by
  obtain ⟨f, k⟩ := k
  exact ⟨f + 1, _, _, h, trivial, x, r, tg, rfl, hs, ht, k⟩
theorem ev_iret {v : Int32} {ty : FieldType} (h : pm_at q pc = some (.ireturn, 1)) (hr : q.2.2.2.2.1 = some ty) (hn : narrow ty (.int v) = .int v) (k : E (some (.int v)) mem) : Ev g C E q pc ls [.int v] mem := ⟨1, _, _, h, rfl, v, ty, rfl, hr, hn, k⟩
theorem ev_iretI {v : Int32} (h : pm_at q pc = some (.ireturn, 1)) (hr : q.2.2.2.2.1 = some .int) (k : E (some (.int v)) mem) : Ev g C E q pc ls [.int v] mem := ⟨1, _, _, h, rfl, v, _, rfl, hr, vp_nar_int v, k⟩
theorem ev_lret {v : Int64} (h : pm_at q pc = some (.lreturn, 1)) (hr : q.2.2.2.2.1 = some .long) (k : E (some (.long v)) mem) : Ev g C E q pc ls [.long v] mem := ⟨1, _, _, h, rfl, v, rfl, hr, k⟩
theorem ev_ret (h : pm_at q pc = some (.return_, 1)) (hr : q.2.2.2.2.1 = none) (k : E none mem) : Ev g C E q pc ls [] mem := ⟨1, _, _, h, rfl, rfl, hr, k⟩
theorem ev_geti {i k c j : Nat} (h : pm_at q pc = some (.getfield i, 3)) (hp : pc + 3 = p') (hf : (q.2.1, i, c, j) ∈ k_fd) (hc : k_fc c j = 0) (hi : pm_is ((n, z, sh), mi, ml, mr) k c)
    (kk : Ev g C E q p' ls (.int (mi k j) :: r) ((n, z, sh), mi, ml, mr)) : Ev g C E q pc ls (.ref k :: r) ((n, z, sh), mi, ml, mr) := by
  subst hp
  obtain ⟨f, kk⟩ := kk
  exact ⟨f + 1, _, _, h, rfl, ⟨_, r, c, j, rfl, hf, hi, by rw [hc]; exact kk⟩⟩
theorem ev_getl {i k c j : Nat} (h : pm_at q pc = some (.getfield i, 3)) (hp : pc + 3 = p') (hf : (q.2.1, i, c, j) ∈ k_fd) (hc : k_fc c j = 1) (hi : pm_is ((n, z, sh), mi, ml, mr) k c)
    (kk : Ev g C E q p' ls (.long (ml k j) :: r) ((n, z, sh), mi, ml, mr)) : Ev g C E q pc ls (.ref k :: r) ((n, z, sh), mi, ml, mr) := by
  subst hp
  obtain ⟨f, kk⟩ := kk
  exact ⟨f + 1, _, _, h, rfl, ⟨_, r, c, j, rfl, hf, hi, by rw [hc]; exact kk⟩⟩
theorem ev_getr {i k c j a : Nat} (h : pm_at q pc = some (.getfield i, 3)) (hp : pc + 3 = p') (hf : (q.2.1, i, c, j) ∈ k_fd) (hc : k_fc c j = 2) (hi : pm_is ((n, z, sh), mi, ml, mr) k c) (ha : mr k j = some a)
    (kk : Ev g C E q p' ls (.ref a :: r) ((n, z, sh), mi, ml, mr)) : Ev g C E q pc ls (.ref k :: r) ((n, z, sh), mi, ml, mr) := by
  subst hp
  obtain ⟨f, kk⟩ := kk
  exact ⟨f + 1, _, _, h, rfl, ⟨_, r, c, j, rfl, hf, hi, by rw [hc]; simp only [pm_fv, ha]; exact kk⟩⟩
theorem ev_puti {i k c j : Nat} {x : Int32} (h : pm_at q pc = some (.putfield i, 3)) (hp : pc + 3 = p') (hf : (q.2.1, i, c, j) ∈ k_fd) (hc : k_fc c j = 0) (hi : pm_is ((n, z, sh), mi, ml, mr) k c) (hg : g k) (hfi : k_fin c j = false)
    (kk : Ev g C E q p' ls r ((n, z, sh), pm_u mi k j x, ml, mr)) : Ev g C E q pc ls (.int x :: .ref k :: r) ((n, z, sh), mi, ml, mr) := by
  subst hp
  obtain ⟨f, kk⟩ := kk
  exact ⟨f + 1, _, _, h, rfl, ⟨_, _, r, c, j, rfl, hf, hi, hg, fun h9 => absurd (hfi.symm.trans h9) (by decide), Or.inl ⟨x, rfl, hc, kk⟩⟩⟩
theorem ev_putl {i k c j : Nat} {x : Int64} (h : pm_at q pc = some (.putfield i, 3)) (hp : pc + 3 = p') (hf : (q.2.1, i, c, j) ∈ k_fd) (hc : k_fc c j = 1) (hi : pm_is ((n, z, sh), mi, ml, mr) k c) (hg : g k) (hfi : k_fin c j = false)
    (kk : Ev g C E q p' ls r ((n, z, sh), mi, pm_u ml k j x, mr)) : Ev g C E q pc ls (.long x :: .ref k :: r) ((n, z, sh), mi, ml, mr) := by
  subst hp
  obtain ⟨f, kk⟩ := kk
  exact ⟨f + 1, _, _, h, rfl, ⟨_, _, r, c, j, rfl, hf, hi, hg, fun h9 => absurd (hfi.symm.trans h9) (by decide), Or.inr (Or.inl ⟨x, rfl, hc, kk⟩)⟩⟩
theorem ev_putr {i k c j a : Nat} (h : pm_at q pc = some (.putfield i, 3)) (hp : pc + 3 = p') (hf : (q.2.1, i, c, j) ∈ k_fd) (hc : k_fc c j = 2) (hi : pm_is ((n, z, sh), mi, ml, mr) k c) (hg : g k) (hnm : q.1.name = "<init>") (hoc : q.2.1 = c)
    (kk : Ev g C E q p' ls r ((n, z, sh), mi, ml, pm_u mr k j (some a))) : Ev g C E q pc ls (.ref a :: .ref k :: r) ((n, z, sh), mi, ml, mr) := by
  subst hp
  obtain ⟨f, kk⟩ := kk
  exact ⟨f + 1, _, _, h, rfl, ⟨_, _, r, c, j, rfl, hf, hi, hg, fun _ => ⟨hnm, hoc⟩, Or.inr (Or.inr ⟨a, rfl, hc, kk⟩)⟩⟩
theorem ev_iald {i : Int32} {k : Nat} (h : pm_at q pc = some (.iaload, 1)) (hp : pc + 1 = p') (hin : vp_in i (sh k).2) (hi : pm_is ((n, z, sh), mi, ml, mr) k 20)
    (kk : Ev g C E q p' ls (.int (mi k i.toNatClampNeg) :: r) ((n, z, sh), mi, ml, mr)) : Ev g C E q pc ls (.int i :: .ref k :: r) ((n, z, sh), mi, ml, mr) := by
  subst hp
  obtain ⟨f, kk⟩ := kk
  exact ⟨f + 1, _, _, h, rfl, ⟨i, _, r, rfl, hin, Or.inr hi, kk⟩⟩
theorem ev_sald {i : Int32} (h : pm_at q pc = some (.iaload, 1)) (hp : pc + 1 = p') (hin : vp_in i (sh 0).2)
    (kk : Ev g C E q p' ls (.int (mi 0 i.toNatClampNeg) :: r) ((n, z, sh), mi, ml, mr)) : Ev g C E q pc ls (.int i :: .ref 0 :: r) ((n, z, sh), mi, ml, mr) := by
  subst hp
  obtain ⟨f, kk⟩ := kk
  exact ⟨f + 1, _, _, h, rfl, ⟨i, _, r, rfl, hin, Or.inl rfl, kk⟩⟩
theorem ev_bald {i : Int32} {k : Nat} (h : pm_at q pc = some (.baload, 1)) (hp : pc + 1 = p') (hin : vp_in i (sh k).2) (hi : pm_is ((n, z, sh), mi, ml, mr) k 21)
    (kk : Ev g C E q p' ls (.int (mi k i.toNatClampNeg) :: r) ((n, z, sh), mi, ml, mr)) : Ev g C E q pc ls (.int i :: .ref k :: r) ((n, z, sh), mi, ml, mr) := by
  subst hp
  obtain ⟨f, kk⟩ := kk
  exact ⟨f + 1, _, _, h, rfl, ⟨i, _, r, rfl, hin, Or.inl hi, kk⟩⟩
theorem ev_zald {i : Int32} {k : Nat} (h : pm_at q pc = some (.baload, 1)) (hp : pc + 1 = p') (hin : vp_in i (sh k).2) (hi : pm_is ((n, z, sh), mi, ml, mr) k 22)
    (kk : Ev g C E q p' ls (.int (mi k i.toNatClampNeg) :: r) ((n, z, sh), mi, ml, mr)) : Ev g C E q pc ls (.int i :: .ref k :: r) ((n, z, sh), mi, ml, mr) := by
  subst hp
  obtain ⟨f, kk⟩ := kk
  exact ⟨f + 1, _, _, h, rfl, ⟨i, _, r, rfl, hin, Or.inr hi, kk⟩⟩
theorem ev_aald {i : Int32} {k a : Nat} (t : Nat) (h : pm_at q pc = some (.aaload, 1)) (hp : pc + 1 = p') (hin : vp_in i (sh k).2) (hi : pm_is ((n, z, sh), mi, ml, mr) k t) (ht : 23 ≤ t ∧ t ≤ 27) (ha : mr k i.toNatClampNeg = some a)
    (kk : Ev g C E q p' ls (.ref a :: r) ((n, z, sh), mi, ml, mr)) : Ev g C E q pc ls (.int i :: .ref k :: r) ((n, z, sh), mi, ml, mr) := by
  subst hp
  obtain ⟨f, kk⟩ := kk
  exact ⟨f + 1, _, _, h, rfl, ⟨i, _, r, t, rfl, hin, ht.1, ht.2, hi, by simp only [ha]; exact kk⟩⟩
theorem ev_iast {i x : Int32} {k : Nat} (h : pm_at q pc = some (.iastore, 1)) (hp : pc + 1 = p') (hin : vp_in i (sh k).2) (hi : pm_is ((n, z, sh), mi, ml, mr) k 20) (hg : g k)
    (kk : Ev g C E q p' ls r ((n, z, sh), pm_u mi k i.toNatClampNeg x, ml, mr)) : Ev g C E q pc ls (.int x :: .int i :: .ref k :: r) ((n, z, sh), mi, ml, mr) := by
  subst hp
  obtain ⟨f, kk⟩ := kk
  exact ⟨f + 1, _, _, h, rfl, ⟨x, i, _, r, rfl, hin, hi, hg, kk⟩⟩
theorem ev_bast {i x : Int32} {k : Nat} (h : pm_at q pc = some (.bastore, 1)) (hp : pc + 1 = p') (hin : vp_in i (sh k).2) (hi : pm_is ((n, z, sh), mi, ml, mr) k 21) (hg : g k)
    (kk : Ev g C E q p' ls r ((n, z, sh), pm_u mi k i.toNatClampNeg (vp_nar .byte x), ml, mr)) : Ev g C E q pc ls (.int x :: .int i :: .ref k :: r) ((n, z, sh), mi, ml, mr) := by
  subst hp
  obtain ⟨f, kk⟩ := kk
  exact ⟨f + 1, _, _, h, rfl, ⟨x, i, _, r, rfl, hin, hg, Or.inl ⟨hi, kk⟩⟩⟩
theorem ev_zast {i x : Int32} {k : Nat} (h : pm_at q pc = some (.bastore, 1)) (hp : pc + 1 = p') (hin : vp_in i (sh k).2) (hi : pm_is ((n, z, sh), mi, ml, mr) k 22) (hg : g k)
    (kk : Ev g C E q p' ls r ((n, z, sh), pm_u mi k i.toNatClampNeg (vp_nar .boolean x), ml, mr)) : Ev g C E q pc ls (.int x :: .int i :: .ref k :: r) ((n, z, sh), mi, ml, mr) := by
  subst hp
  obtain ⟨f, kk⟩ := kk
  exact ⟨f + 1, _, _, h, rfl, ⟨x, i, _, r, rfl, hin, hg, Or.inr ⟨hi, kk⟩⟩⟩
theorem ev_aast {i : Int32} {k a : Nat} (t c : Nat) (h : pm_at q pc = some (.aastore, 1)) (hp : pc + 1 = p') (hin : vp_in i (sh k).2) (hi : pm_is ((n, z, sh), mi, ml, mr) k t) (hia : pm_is ((n, z, sh), mi, ml, mr) a c) (htc : (t, c) ∈ [(23, 4), (24, 2), (25, 3), (26, 8), (26, 6), (26, 0), (26, 1), (26, 5), (26, 10)]) (hg : g k)
    (kk : Ev g C E q p' ls r ((n, z, sh), mi, ml, pm_u mr k i.toNatClampNeg (some a))) : Ev g C E q pc ls (.ref a :: .int i :: .ref k :: r) ((n, z, sh), mi, ml, mr) := by
  subst hp
  obtain ⟨f, kk⟩ := kk
  exact ⟨f + 1, _, _, h, rfl, ⟨a, i, _, r, t, c, rfl, hin, hi, hia, htc, hg, kk⟩⟩
theorem ev_alen {k : Nat} (t : Nat) (h : pm_at q pc = some (.arraylength, 1)) (hp : pc + 1 = p') (hi : pm_is ((n, z, sh), mi, ml, mr) k t) (ht : 20 ≤ t ∧ t ≤ 27)
    (kk : Ev g C E q p' ls (.int (Int32.ofNat (sh k).2) :: r) ((n, z, sh), mi, ml, mr)) : Ev g C E q pc ls (.ref k :: r) ((n, z, sh), mi, ml, mr) := by
  subst hp
  obtain ⟨f, kk⟩ := kk
  exact ⟨f + 1, _, _, h, rfl, ⟨_, r, rfl, Or.inr ⟨t, ht.1, ht.2, hi⟩, kk⟩⟩
theorem ev_slen  (h : pm_at q pc = some (.arraylength, 1)) (hp : pc + 1 = p') 
    (kk : Ev g C E q p' ls (.int (Int32.ofNat (sh 0).2) :: r) ((n, z, sh), mi, ml, mr)) : Ev g C E q pc ls (.ref 0 :: r) ((n, z, sh), mi, ml, mr) := by
  subst hp
  obtain ⟨f, kk⟩ := kk
  exact ⟨f + 1, _, _, h, rfl, ⟨_, r, rfl, Or.inl rfl, kk⟩⟩
theorem ev_new {i : Nat} (c : Nat) (h : pm_at q pc = some (.new i, 3)) (hp : pc + 3 = p') (hw : (q.2.1, i, c) ∈ k_nw) (hc : c < 13) (hn : mem.1.1 + 2 < 1000000)
    (k : Ev g C E q p' ls (.ref (mem.1.1 + 1) :: r) (pm_new mem c (k_nf c))) : Ev g C E q pc ls r mem := by
  subst hp
  obtain ⟨f, k⟩ := k
  exact ⟨f + 1, _, _, h, rfl, ⟨c, hw, hc, hn, k⟩⟩
theorem ev_newa {t : ArrayType} {x : Int32} (tg : Nat) (h : pm_at q pc = some (.newarray t, 2)) (hp : pc + 2 = p') (hx : ¬ x < 0) (hm : x.toNatClampNeg ≤ 100000) (ht : pm_atag t = some tg) (hn : mem.1.1 + 2 < 1000000)
    (k : Ev g C E q p' ls (.ref (mem.1.1 + 1) :: r) (pm_new mem tg x.toNatClampNeg)) : Ev g C E q pc ls (.int x :: r) mem := by
  subst hp
  obtain ⟨f, k⟩ := k
  exact ⟨f + 1, _, _, h, rfl, ⟨x, r, tg, rfl, hx, hm, ht, hn, k⟩⟩
theorem ev_anewa {i : Nat} {x : Int32} (tg : Nat) (h : pm_at q pc = some (.anewarray i, 3)) (hp : pc + 3 = p') (hx : ¬ x < 0) (hm : x.toNatClampNeg ≤ 100000) (hw : (q.2.1, i, tg) ∈ k_nw) (ht : 23 ≤ tg ∧ tg ≤ 26) (hn : mem.1.1 + 2 < 1000000)
    (k : Ev g C E q p' ls (.ref (mem.1.1 + 1) :: r) (pm_new mem tg x.toNatClampNeg)) : Ev g C E q pc ls (.int x :: r) mem := by
  subst hp
  obtain ⟨f, k⟩ := k
  exact ⟨f + 1, _, _, h, rfl, ⟨x, r, tg, rfl, hx, hm, hw, ht.1, ht.2, hn, k⟩⟩
theorem ev_mnew {i : Nat} {x y : Int32} (h : pm_at q pc = some (.multianewarray i 2, 4)) (hp : pc + 4 = p') (hx : ¬ x < 0) (hy : ¬ y < 0) (hm : x.toNatClampNeg ≤ 1000) (hm2 : y.toNatClampNeg ≤ 1000) (hw : (q.2.1, i, 27) ∈ k_nw) (hn : mem.1.1 + 2 + x.toNatClampNeg < 1000000)
    (k : Ev g C E q p' ls (.ref (mem.1.1 + 1) :: r) (pm_new2 mem x.toNatClampNeg y.toNatClampNeg)) : Ev g C E q pc ls (.int y :: .int x :: r) mem := by
  subst hp
  obtain ⟨f, k⟩ := k
  exact ⟨f + 1, _, _, h, rfl, ⟨x, y, r, rfl, rfl, hx, hy, hm, hm2, hw, hn, k⟩⟩
theorem ev_objInit {i b : Nat} (h : pm_at q pc = some (.invokespecial i, 3)) (hp : pc + 3 = p') (hc : (q.2.1, i, 9, 0, 0, 0) ∈ k_cs) (hr : (r.map fun v => v.category).sum ≤ 8) (k : Ev g C E q p' ls r mem) : Ev g C E q pc ls (.ref b :: r) mem := by
  subst hp
  obtain ⟨f, k⟩ := k
  exact ⟨f + 1, _, _, h, rfl, Or.inr ⟨b, r, rfl, hc, hr, k⟩⟩
theorem ev_acopy {i a b : Nat} {sp dp m : Int32} (h : pm_at q pc = some (.invokestatic i, 3)) (hp : pc + 3 = p') (hc : (q.2.1, i, 8, 0, 0, 5) ∈ k_cs) (ha : pm_is ((n, z, sh), mi, ml, mr) a 20) (hb : pm_is ((n, z, sh), mi, ml, mr) b 20) (hg : g b) (h1 : ¬ sp < 0) (h2 : ¬ dp < 0) (h3 : ¬ m < 0) (h4 : sp.toNatClampNeg + m.toNatClampNeg ≤ (sh a).2) (h5 : dp.toNatClampNeg + m.toNatClampNeg ≤ (sh b).2) (hr : (r.map fun v => v.category).sum ≤ 8)
    (k : Ev g C E q p' ls r ((n, z, sh), pm_cpy mi a sp.toNatClampNeg b dp.toNatClampNeg m.toNatClampNeg, ml, mr)) : Ev g C E q pc ls (.int m :: .int dp :: .ref b :: .int sp :: .ref a :: r) ((n, z, sh), mi, ml, mr) := by
  subst hp
  obtain ⟨f, k⟩ := k
  exact ⟨f + 1, _, _, h, rfl, Or.inr (Or.inl ⟨a, sp, b, dp, m, r, rfl, hc, ha, hb, hg, h1, h2, h3, h4, h5, hr, k⟩)⟩
theorem ev_max {i : Nat} {x y : Int32} (h : pm_at q pc = some (.invokestatic i, 3)) (hp : pc + 3 = p') (hc : (q.2.1, i, 10, 0, 0, 0) ∈ k_cs) (hr : (r.map fun v => v.category).sum ≤ 8) (k : Ev g C E q p' ls (.int (if x < y then y else x) :: r) mem) : Ev g C E q pc ls (.int y :: .int x :: r) mem := by
  subst hp
  obtain ⟨f, k⟩ := k
  exact ⟨f + 1, _, _, h, rfl, Or.inr (Or.inr (Or.inl ⟨x, y, r, rfl, hc, hr, k⟩))⟩
theorem ev_min {i : Nat} {x y : Int32} (h : pm_at q pc = some (.invokestatic i, 3)) (hp : pc + 3 = p') (hc : (q.2.1, i, 11, 0, 0, 0) ∈ k_cs) (hr : (r.map fun v => v.category).sum ≤ 8) (k : Ev g C E q p' ls (.int (if y < x then y else x) :: r) mem) : Ev g C E q pc ls (.int y :: .int x :: r) mem := by
  subst hp
  obtain ⟨f, k⟩ := k
  exact ⟨f + 1, _, _, h, rfl, Or.inr (Or.inr (Or.inr (Or.inl ⟨x, y, r, rfl, hc, hr, k⟩)))⟩
theorem ev_abs {i : Nat} {x : Int32} (h : pm_at q pc = some (.invokestatic i, 3)) (hp : pc + 3 = p') (hc : (q.2.1, i, 12, 0, 0, 0) ∈ k_cs) (hr : (r.map fun v => v.category).sum ≤ 8) (k : Ev g C E q p' ls (.int (if 0 ≤ x then x else 0 - x) :: r) mem) : Ev g C E q pc ls (.int x :: r) mem := by
  subst hp
  obtain ⟨f, k⟩ := k
  exact ⟨f + 1, _, _, h, rfl, Or.inr (Or.inr (Or.inr (Or.inr ⟨x, r, rfl, hc, hr, k⟩)))⟩
theorem ev_calls {i kd M na : Nat} {As : List Value} {v : Option Value} {st : List Value} {mem' : pm_M} (h : pm_at q pc = some (.invokestatic i, 3)) (hp : pc + 3 = p') (hc : (q.2.1, i, kd, 0, M, na) ∈ k_cs) (hk : kd ∈ [0, 1]) (hn : As.length = na) (hs : st = As.reverse ++ r) (hr : (r.map fun v => v.category).sum ≤ 8) (hC : C M As mem v mem')
    (k : Ev g C E q p' ls (v.toList ++ r) mem') : Ev g C E q pc ls st mem := by
  subst hp
  obtain ⟨f, k⟩ := k
  exact ⟨f + 1, _, _, h, rfl, Or.inl ⟨kd, 0, M, na, As, r, v, mem', hc, hk, hn, hr, Or.inl ⟨rfl, hs, hC⟩, k⟩⟩
theorem ev_callv {i b : Nat} {kd tg M na : Nat} {As : List Value} {v : Option Value} {st : List Value} {mem' : pm_M} (h : pm_at q pc = some (.invokevirtual i, 3)) (hp : pc + 3 = p') (hc : (q.2.1, i, kd, tg, M, na) ∈ k_cs) (hk : kd ∈ [2, 3]) (hn : As.length = na) (hs : st = As.reverse ++ .ref b :: r) (hi : pm_is mem b tg) (hr : (r.map fun v => v.category).sum ≤ 8) (hC : C M (.ref b :: As) mem v mem')
    (k : Ev g C E q p' ls (v.toList ++ r) mem') : Ev g C E q pc ls st mem := by
  subst hp
  obtain ⟨f, k⟩ := k
  exact ⟨f + 1, _, _, h, rfl, kd, tg, M, na, As, r, v, mem', hc, hk, hn, hr, Or.inr ⟨rfl, b, hs, hi, hC⟩, k⟩
theorem ev_callp {i b : Nat} {kd tg M na : Nat} {As : List Value} {v : Option Value} {st : List Value} {mem' : pm_M} (h : pm_at q pc = some (.invokespecial i, 3)) (hp : pc + 3 = p') (hc : (q.2.1, i, kd, tg, M, na) ∈ k_cs) (hk : kd ∈ [4, 5, 6, 7]) (hn : As.length = na) (hs : st = As.reverse ++ .ref b :: r) (hi : pm_is mem b tg) (hr : (r.map fun v => v.category).sum ≤ 8) (hC : C M (.ref b :: As) mem v mem')
    (k : Ev g C E q p' ls (v.toList ++ r) mem') : Ev g C E q pc ls st mem := by
  subst hp
  obtain ⟨f, k⟩ := k
  exact ⟨f + 1, _, _, h, rfl, Or.inl ⟨kd, tg, M, na, As, r, v, mem', hc, hk, hn, hr, Or.inr ⟨rfl, b, hs, hi, hC⟩, k⟩⟩
end EV
end
section
/-! ===== the pure memory on the machine's heap ===== -/
section REL
variable (base b : Nat) (sa : Nat → Nat) (cy : Nat → ClassId)
def pm_ad (k : Nat) : Nat := if k = 0 then b else if k < 1000000 then base + (k - 1) else sa (k - 1000000)
def pm_v (v : Value) : Value := match v with
  | .ref k => .ref (pm_ad base b sa k)
  | v => v
def pm_fs (mem : pm_M) (k c : Nat) : List Value := (List.range (k_nf c)).map fun j => pm_v base b sa (pm_fv mem k (k_fc c j) j)
def pm_e (mem : pm_M) (k : Nat) : va_E := if (mem.1.2.2 k).1 < 20 then .inr ((mem.1.2.2 k).1, pm_fs base b sa mem k (mem.1.2.2 k).1)
  else if (mem.1.2.2 k).1 < 23 then .inl (cy ((mem.1.2.2 k).1 - 20), (mem.1.2.2 k).2, .inl (mem.2.1 k))
  else .inl (cy ((mem.1.2.2 k).1 - 20), (mem.1.2.2 k).2, .inr (.inr (.inr (.inr fun i => (mem.2.2.2 k i).map (pm_ad base b sa)))))
def pm_ws (mem : pm_M) : va_W := (List.range mem.1.1).map fun k => (pm_ad base b sa (k + 1), pm_e base b sa cy mem (k + 1))
def pm_A : Nat → Prop := fun q => base ≤ q
def pm_T : List (ClassId × FieldType) := [(cy 0, .int), (cy 1, .byte), (cy 2, .boolean), (cy 3, .object "StandUpBook$Spread"), (cy 4, .object "StandUpBook$Page"), (cy 5, .object "StandUpBook$Piece"), (cy 6, .object "StandUpBook$Vee"), (cy 7, .array .int)]
end REL
section REL2
variable {base b : Nat} {sa : Nat → Nat} {cy : Nat → ClassId} {mem mem' : pm_M}
theorem pm_ad_in {k : Nat} (h1 : 1 ≤ k) (h2 : k < 1000000) : pm_ad base b sa k = base + (k - 1) := by
  unfold pm_ad
  rw [if_neg (by omega), if_pos h2]
theorem pm_v_int (x : Int32) : pm_v base b sa (.int x) = .int x := rfl
theorem pm_v_long (x : Int64) : pm_v base b sa (.long x) = .long x := rfl
theorem pm_v_ref (k : Nat) : pm_v base b sa (.ref k) = .ref (pm_ad base b sa k) := rfl
theorem pm_v_rf (r : Option Nat) : pm_v base b sa (va_rf r) = va_rf (r.map (pm_ad base b sa)) := by cases r <;> rfl
theorem pm_v_cat (v : Value) : (pm_v base b sa v).category = v.category := by cases v <;> rfl
theorem pm_v_sum (st : List Value) : ((st.map (pm_v base b sa)).map fun v => v.category).sum = (st.map fun v => v.category).sum := by
  rw [List.map_map]
  congr 1
  apply List.map_congr_left
  intro v _
  exact pm_v_cat v
theorem pm_ws_get {k : Nat} (h1 : 1 ≤ k) (h2 : k ≤ mem.1.1) : (pm_ws base b sa cy mem)[k - 1]? = some (pm_ad base b sa k, pm_e base b sa cy mem k) := by
  unfold pm_ws
  rw [List.getElem?_map, List.getElem?_range (by omega)]
  simp [Nat.sub_add_cancel h1]
theorem pm_ws_len : (pm_ws base b sa cy mem).length = mem.1.1 := by simp [pm_ws]
theorem pm_ws_at {k : Nat} {q : Nat × va_E} (h : (pm_ws base b sa cy mem)[k]? = some q) : k < mem.1.1 ∧ q = (pm_ad base b sa (k + 1), pm_e base b sa cy mem (k + 1)) := by
  have hl : k < mem.1.1 := by have := (List.getElem?_eq_some_iff.mp h).1; rwa [pm_ws_len] at this
  have h2 := pm_ws_get (base := base) (b := b) (sa := sa) (cy := cy) (mem := mem) (k := k + 1) (by omega) (by omega)
  rw [Nat.add_sub_cancel, h] at h2
  exact ⟨hl, Option.some.inj h2⟩
theorem pm_D_ok (hn : mem.1.1 < 999999) : va_D (pm_A base) (pm_ws base b sa cy mem) := by
  refine ⟨fun i j p q hi hj he => ?_, fun k q hk => ?_⟩
  · obtain ⟨h1, rfl⟩ := pm_ws_at hi
    obtain ⟨h2, rfl⟩ := pm_ws_at hj
    simp only [pm_ad_in (base := base) (b := b) (sa := sa) (show 1 ≤ i + 1 by omega) (by omega), pm_ad_in (base := base) (b := b) (sa := sa) (show 1 ≤ j + 1 by omega) (by omega)] at he
    omega
  · obtain ⟨h1, rfl⟩ := pm_ws_at hk
    show base ≤ pm_ad base b sa (k + 1)
    rw [pm_ad_in (by omega) (by omega)]
    omega
theorem pm_e_congr {k : Nat} (h0 : mem'.1.2.2 k = mem.1.2.2 k) (h1 : mem'.2.1 k = mem.2.1 k) (h2 : mem'.2.2.1 k = mem.2.2.1 k) (h3 : mem'.2.2.2 k = mem.2.2.2 k) : pm_e base b sa cy mem' k = pm_e base b sa cy mem k := by
  unfold pm_e pm_fs pm_fv
  rw [h0, h1, h2, h3]
theorem pm_ws_set {k : Nat} {e' : va_E} (h1 : 1 ≤ k) (h2 : k ≤ mem.1.1) (hn : mem'.1.1 = mem.1.1) (ho : ∀ j, j ≠ k → pm_e base b sa cy mem' j = pm_e base b sa cy mem j) (he : pm_e base b sa cy mem' k = e') :
    (pm_ws base b sa cy mem).set (k - 1) (pm_ad base b sa k, e') = pm_ws base b sa cy mem' := by
  apply List.ext_getElem?
  intro i
  by_cases hi : i < mem.1.1
  · have g1 := pm_ws_get (base := base) (b := b) (sa := sa) (cy := cy) (mem := mem') (k := i + 1) (by omega) (by omega)
    have g0 := pm_ws_get (base := base) (b := b) (sa := sa) (cy := cy) (mem := mem) (k := i + 1) (by omega) (by omega)
    rw [Nat.add_sub_cancel] at g1 g0
    by_cases hk : i = k - 1
    · subst hk
      rw [List.getElem?_set_self (by rw [pm_ws_len]; omega), g1, Nat.sub_add_cancel h1, he]
    · rw [List.getElem?_set_ne (fun h => hk h.symm), g0, g1, ho (i + 1) (by omega)]
  · rw [List.getElem?_eq_none (by rw [List.length_set, pm_ws_len]; omega), List.getElem?_eq_none (by rw [pm_ws_len]; omega)]
theorem pm_u_ne {α : Type} {f : Nat → Nat → α} {k j a : Nat} {v : α} (h : a ≠ k) : pm_u f k j v a = f a := by
  funext i
  unfold pm_u
  rw [if_neg (fun q => h q.1)]
theorem pm_u_self {α : Type} {f : Nat → Nat → α} {k j : Nat} {v : α} : pm_u f k j v k j = v := by simp [pm_u]
theorem pm_u_row {f : Nat → Nat → Int32} {k j : Nat} {v : Int32} : pm_u f k j v k = upd (f k) j v := by
  funext i
  by_cases h : i = j
  · subst h
    rw [pm_u_self, pk_us]
  · rw [pk_un h]
    simp [pm_u, h]
theorem pm_u_oth {α : Type} {f : Nat → Nat → α} {k j i : Nat} {v : α} (h : i ≠ j) : pm_u f k j v k i = f k i := by simp [pm_u, h]
end REL2
end
section
/-! ===== the small machine's instructions are the machine's: locals, stack, arithmetic, branches ===== -/
section LOC
variable {base b : Nat} {sa : Nat → Nat}
variable (base b sa) in
def pm_lh (Ls : Array Slot) (nL : Nat) (ls : pm_L) : Prop := Ls.size = nL ∧ lv_wf Ls ∧ ∀ (i : Nat) (v : Value), ls[i]? = some (some v) → Ls[i]? = some (.val (pm_v base b sa v))
variable (base b sa) in
def pm_al (ls : pm_L) : List (Nat × Value) := (List.range ls.length).filterMap fun i => match ls[i]? with
  | some (some v) => some (i, pm_v base b sa v)
  | _ => none
theorem pm_al_in {ls : pm_L} {i : Nat} {v : Value} (h : ls[i]? = some (some v)) : (i, pm_v base b sa v) ∈ pm_al base b sa ls := by
  refine List.mem_filterMap.mpr ⟨i, List.mem_range.mpr (List.getElem?_eq_some_iff.mp h).1, ?_⟩
  simp only [h]
theorem pm_al_out {ls : pm_L} {q : Nat × Value} (h : q ∈ pm_al base b sa ls) : ∃ v, ls[q.1]? = some (some v) ∧ q.2 = pm_v base b sa v := by
  obtain ⟨i, -, hi⟩ := List.mem_filterMap.mp h
  split at hi
  · rename_i v hv
    cases hi
    exact ⟨v, hv, rfl⟩
  · cases hi
theorem pm_lh.has {Ls : Array Slot} {nL : Nat} {ls : pm_L} (h : pm_lh base b sa Ls nL ls) : lv_has Ls nL (pm_al base b sa ls) := by
  refine ⟨h.1, h.2.1, fun q hq => ?_⟩
  obtain ⟨v, h1, h2⟩ := pm_al_out hq
  rw [h2]
  exact h.2.2 _ _ h1
theorem pm_ok1_cat {ls : pm_L} {i j : Nat} {w : Value} (h : pm_ok1 ls i = true) (hj : j + 1 = i) (hw : ls[j]? = some (some w)) : w.category = 1 := by
  subst hj
  cases w <;> first | rfl | (simp [pm_ok1, hw] at h)
theorem pm_lh.st1 {Ls' : Array Slot} {nL i : Nat} {ls : pm_L} {v : Value} (hok : pm_ok1 ls i = true) (h : lv_has Ls' nL ((i, pm_v base b sa v) :: (pm_al base b sa ls).filter (fun q => !(q.1 == i) && !(q.1 + 1 == i && q.2.category == 2)))) : pm_lh base b sa Ls' nL (ls.set i (some v)) := by
  refine ⟨h.1, h.2.1, fun j w hj => ?_⟩
  by_cases hij : j = i
  · subst hij
    have hl : j < (ls.set j (some v)).length := (List.getElem?_eq_some_iff.mp hj).1
    rw [List.length_set] at hl
    rw [List.getElem?_set_self hl] at hj
    cases hj
    exact h.2.2 (j, _) List.mem_cons_self
  · rw [List.getElem?_set_ne (fun q => hij q.symm)] at hj
    refine h.2.2 (j, _) (List.mem_cons_of_mem _ (List.mem_filter.mpr ⟨pm_al_in hj, ?_⟩))
    have hc : ¬ (j + 1 = i ∧ (pm_v base b sa w).category = 2) := fun q => by
      have := pm_ok1_cat hok q.1 hj
      rw [pm_v_cat] at q
      omega
    simp only [Bool.and_eq_true, Bool.not_eq_true', beq_eq_false_iff_ne, ne_eq, Bool.and_eq_false_iff]
    refine ⟨hij, ?_⟩
    by_cases h1 : j + 1 = i
    · exact Or.inr (fun q => hc ⟨h1, q⟩)
    · exact Or.inl h1
theorem pm_lh.st2 {Ls' : Array Slot} {nL i : Nat} {ls : pm_L} {v : Value} (hok : pm_ok1 ls i = true) (h : lv_has Ls' nL ((i, pm_v base b sa v) :: (pm_al base b sa ls).filter (fun q => !(q.1 == i) && (!(q.1 == i + 1) && !(q.1 + 1 == i && q.2.category == 2))))) : pm_lh base b sa Ls' nL ((ls.set i (some v)).set (i + 1) none) := by
  refine ⟨h.1, h.2.1, fun j w hj => ?_⟩
  by_cases hi1 : j = i + 1
  · subst hi1
    have hl : i + 1 < ((ls.set i (some v)).set (i + 1) none).length := (List.getElem?_eq_some_iff.mp hj).1
    rw [List.length_set] at hl
    rw [List.getElem?_set_self hl] at hj
    cases hj
  · rw [List.getElem?_set_ne (fun q => hi1 q.symm)] at hj
    by_cases hij : j = i
    · subst hij
      have hl : j < (ls.set j (some v)).length := (List.getElem?_eq_some_iff.mp hj).1
      rw [List.length_set] at hl
      rw [List.getElem?_set_self hl] at hj
      cases hj
      exact h.2.2 (j, _) List.mem_cons_self
    · rw [List.getElem?_set_ne (fun q => hij q.symm)] at hj
      refine h.2.2 (j, _) (List.mem_cons_of_mem _ (List.mem_filter.mpr ⟨pm_al_in hj, ?_⟩))
      have hc : ¬ (j + 1 = i ∧ (pm_v base b sa w).category = 2) := fun q => by
        have := pm_ok1_cat hok q.1 hj
        rw [pm_v_cat] at q
        omega
      simp only [Bool.and_eq_true, Bool.not_eq_true', beq_eq_false_iff_ne, ne_eq, Bool.and_eq_false_iff]
      refine ⟨hij, hi1, ?_⟩
      by_cases h1 : j + 1 = i
      · exact Or.inr (fun q => hc ⟨h1, q⟩)
      · exact Or.inl h1
end LOC
def pm_lens : List Nat := [4, 5, 2, 4, 4]
def pm_byts : List (List Int32) := [pm_wd 0, pm_wd 1, pm_wd 2, pm_wd 3, pm_wd 4]
def pm_GH (D : va_G) (cy : Nat → ClassId) (base b : Nat) (sa sv : Nat → Nat) (U : State) (H : Heap) (mem : pm_M) : Prop :=
  mem.1.1 < 999999 ∧ va_P D k_cl (pm_ws base b sa cy mem) H ∧ va_X b (mem.1.2.2 0).2 (mem.2.1 0) U H ∧ vk_S 5 pm_lens pm_byts sa sv (pm_A base) U H ∧ b < base
def k_cst : List Jvm.Cond := [.castable "StandUpBook$Tent" "StandUpBook$Vee", .castable "StandUpBook$Box" "StandUpBook$Vee", .castable "StandUpBook$Flap" "StandUpBook$Vee", .castable "StandUpBook$Stage" "StandUpBook$Vee", .castable "StandUpBook$Wheel" "StandUpBook$Vee"]
def pm_AA (U : State) : Prop := (Jvm.Cond.arrayOver (.array .int)).before #[] U = true
/-- what the tables say that isn't among the words -/
def pm_K (D : va_G) (cy : Nat → ClassId) (sa : Nat → Nat) (U : State) : Prop :=
  va_K D k_cl (pm_T cy) U ∧ (∀ w ∈ k_nest, va_Nw w U) ∧ (∀ r ∈ k_sx, vk_R (k_cn r.1) r.2.1 (k_wd.getD r.2.2 "") (sa r.2.2) U) ∧ (∀ t, 23 ≤ t → t ≤ 26 → va_AO (k_an t) U) ∧ pm_AA U ∧ ∀ w ∈ k_cst, va_Nw w U
def pm_fix (q : pm_D) (D : va_G) (cy : Nat → ClassId) (sa : Nat → Nat) (p : Program) (s : State) (m : MethodId) (args : Array Value) (meth : Method) (c : Code) : Prop :=
  p.tables.exec = Jvm.exec ∧ c.code = q.2.2.1 ∧ c.maxLocals = q.2.2.2.1 ∧ s.vm.findClass (k_cn q.2.1) = some m.cls ∧ (∀ w ∈ pm_tbl, w.before args s = true) ∧ meth.name = q.1.name ∧ pm_K D cy sa s
def pm_Rel (D : va_G) (cy : Nat → ClassId) (base b : Nat) (sa sv : Nat → Nat) (s : State) (z0 nL : Nat) (H : Heap) (locs : List Loc) (cells slots : Nat) (Ls : Array Slot) (ls : pm_L) (mem : pm_M) : Prop :=
  pm_GH D cy base b sa sv s H mem ∧ va_S (pm_A base) s.heap H locs ∧ (base ≤ s.heap.size ∧ base + mem.1.1 = s.heap.size + cells) ∧ z0 + slots = mem.1.2.1 ∧ pm_lh base b sa Ls nL ls
abbrev pm_KW (l : Launch) (D : va_G) (cy : Nat → ClassId) (base b : Nat) (sa sv : Nat → Nat) (p : Program) (e : Env) (R : Room) (s : State) (m : MethodId) (args : Array Value) (below : List Frame) (meth : Method) (c : Code) (Q : State → Prop) (z0 nL : Nat) (K : Nat → pm_L → List Value → pm_M → Prop) : Prop :=
  ∀ (pc : Nat) (ls : pm_L) (st : List Value) (mem : pm_M) (H : Heap) (locs : List Loc) (cells slots : Nat) (Ls : Array Slot), K pc ls st mem → pm_Rel D cy base b sa sv s z0 nL H locs cells slots Ls ls mem → W p l e R s m args below meth c H locs cells slots Q (F0 m pc Ls (st.map (pm_v base b sa)))
section SIM
variable {l : Launch} {D : va_G} {cy : Nat → ClassId} {base b : Nat} {sa sv : Nat → Nat} {p : Program} {e : Env} {R : Room} {s : State} {m : MethodId} {args : Array Value} {below : List Frame} {meth : Method} {c : Code} {Q : State → Prop} {z0 : Nat}
variable {g : Nat → Prop} {C : Nat → List Value → pm_M → Option Value → pm_M → Prop} {E : Option Value → pm_M → Prop} {q : pm_D} {K : Nat → pm_L → List Value → pm_M → Prop}
variable {pc : Nat} {ls : pm_L} {st : List Value} {mem : pm_M} {H : Heap} {locs : List Loc} {cells slots : Nat} {Ls : Array Slot}
theorem sm_iconst {i : Int} (F : pm_fix q D cy sa p s m args meth c) (hK : pm_KW l D cy base b sa sv p e R s m args below meth c Q z0 q.2.2.2.1 K) (h : pm_ex g C E q K pc ls st mem (.iconst i)) (hR : pm_Rel D cy base b sa sv s z0 q.2.2.2.1 H locs cells slots Ls ls mem) (hdg : decode q.2.2.1 pc = .ok (.iconst i, 1)) : W p l e R s m args below meth c H locs cells slots Q (F0 m pc Ls (st.map (pm_v base b sa))) := by
  obtain ⟨hx, hb, hml, hown, hts, hnm, hk⟩ := F
  exact lv_iconst hx hb hdg rfl (hK _ _ _ _ _ _ _ _ _ h hR)
theorem sm_bipush {i : Int} (F : pm_fix q D cy sa p s m args meth c) (hK : pm_KW l D cy base b sa sv p e R s m args below meth c Q z0 q.2.2.2.1 K) (h : pm_ex g C E q K pc ls st mem (.bipush i)) (hR : pm_Rel D cy base b sa sv s z0 q.2.2.2.1 H locs cells slots Ls ls mem) (hdg : decode q.2.2.1 pc = .ok (.bipush i, 2)) : W p l e R s m args below meth c H locs cells slots Q (F0 m pc Ls (st.map (pm_v base b sa))) := by
  obtain ⟨hx, hb, hml, hown, hts, hnm, hk⟩ := F
  exact lv_bipush hx hb hdg rfl (hK _ _ _ _ _ _ _ _ _ h hR)
theorem sm_sipush {i : Int} (F : pm_fix q D cy sa p s m args meth c) (hK : pm_KW l D cy base b sa sv p e R s m args below meth c Q z0 q.2.2.2.1 K) (h : pm_ex g C E q K pc ls st mem (.sipush i)) (hR : pm_Rel D cy base b sa sv s z0 q.2.2.2.1 H locs cells slots Ls ls mem) (hdg : decode q.2.2.1 pc = .ok (.sipush i, 3)) : W p l e R s m args below meth c H locs cells slots Q (F0 m pc Ls (st.map (pm_v base b sa))) := by
  obtain ⟨hx, hb, hml, hown, hts, hnm, hk⟩ := F
  exact lv_sipush hx hb hdg rfl (hK _ _ _ _ _ _ _ _ _ h hR)
theorem sm_lconst {i : Fin 2} (F : pm_fix q D cy sa p s m args meth c) (hK : pm_KW l D cy base b sa sv p e R s m args below meth c Q z0 q.2.2.2.1 K) (h : pm_ex g C E q K pc ls st mem (.lconst i)) (hR : pm_Rel D cy base b sa sv s z0 q.2.2.2.1 H locs cells slots Ls ls mem) (hdg : decode q.2.2.1 pc = .ok (.lconst i, 1)) : W p l e R s m args below meth c H locs cells slots Q (F0 m pc Ls (st.map (pm_v base b sa))) := by
  obtain ⟨hx, hb, hml, hown, hts, hnm, hk⟩ := F
  exact lv_lconst hx hb hdg rfl (hK _ _ _ _ _ _ _ _ _ h hR)
theorem sm_ldc {i : Nat} (F : pm_fix q D cy sa p s m args meth c) (hK : pm_KW l D cy base b sa sv p e R s m args below meth c Q z0 q.2.2.2.1 K) (h : pm_ex g C E q K pc ls st mem (.ldc i)) (hR : pm_Rel D cy base b sa sv s z0 q.2.2.2.1 H locs cells slots Ls ls mem) (hdg : decode q.2.2.1 pc = .ok (.ldc i, 2)) : W p l e R s m args below meth c H locs cells slots Q (F0 m pc Ls (st.map (pm_v base b sa))) := by
  obtain ⟨hx, hb, hml, hown, hts, hnm, hk⟩ := F
  rcases h with ⟨v, hc, h⟩ | ⟨k, hc, h⟩
  · exact lv_ldc hx hb hown (hts _ (k_ci_ok _ hc)) hdg (hK _ _ _ _ _ _ _ _ _ h hR)
  · have hZ : vk_R (k_cn q.2.1) i (k_wd.getD k "") (sa k) s := hk.2.2.1 (q.2.1, i, k) hc
    generalize k_wd.getD k "" = tx at hZ
    generalize k_cn q.2.1 = own at hown hZ
    refine va_ldcS hx hb hown hZ hdg ?_
    have h2 := hK _ _ _ _ _ _ _ _ _ h hR
    simp only [List.map_cons, pm_v_ref] at h2
    rw [show pm_ad base b sa (1000000 + k) = sa k by unfold pm_ad; rw [if_neg (by omega), if_neg (by omega)]; rw [Nat.add_sub_cancel_left]] at h2
    exact h2
theorem sm_ldc_w {i : Nat} (F : pm_fix q D cy sa p s m args meth c) (hK : pm_KW l D cy base b sa sv p e R s m args below meth c Q z0 q.2.2.2.1 K) (h : pm_ex g C E q K pc ls st mem (.ldc_w i)) (hR : pm_Rel D cy base b sa sv s z0 q.2.2.2.1 H locs cells slots Ls ls mem) (hdg : decode q.2.2.1 pc = .ok (.ldc_w i, 3)) : W p l e R s m args below meth c H locs cells slots Q (F0 m pc Ls (st.map (pm_v base b sa))) := by
  obtain ⟨hx, hb, hml, hown, hts, hnm, hk⟩ := F
  obtain ⟨v, hc, h⟩ := h
  exact lv_ldcw hx hb hown (hts _ (k_ci_ok _ hc)) hdg (hK _ _ _ _ _ _ _ _ _ h hR)
theorem sm_ldc2_w {i : Nat} (F : pm_fix q D cy sa p s m args meth c) (hK : pm_KW l D cy base b sa sv p e R s m args below meth c Q z0 q.2.2.2.1 K) (h : pm_ex g C E q K pc ls st mem (.ldc2_w i)) (hR : pm_Rel D cy base b sa sv s z0 q.2.2.2.1 H locs cells slots Ls ls mem) (hdg : decode q.2.2.1 pc = .ok (.ldc2_w i, 3)) : W p l e R s m args below meth c H locs cells slots Q (F0 m pc Ls (st.map (pm_v base b sa))) := by
  obtain ⟨hx, hb, hml, hown, hts, hnm, hk⟩ := F
  obtain ⟨v, hc, h⟩ := h
  exact lv_ldc2 hx hb hown (hts _ (k_c2_ok _ hc)) hdg (hK _ _ _ _ _ _ _ _ _ h hR)
theorem sm_iload_n {i : Fin 4} (F : pm_fix q D cy sa p s m args meth c) (hK : pm_KW l D cy base b sa sv p e R s m args below meth c Q z0 q.2.2.2.1 K) (h : pm_ex g C E q K pc ls st mem (.iload_n i)) (hR : pm_Rel D cy base b sa sv s z0 q.2.2.2.1 H locs cells slots Ls ls mem) (hdg : decode q.2.2.1 pc = .ok (.iload_n i, 1)) : W p l e R s m args below meth c H locs cells slots Q (F0 m pc Ls (st.map (pm_v base b sa))) := by
  obtain ⟨hx, hb, hml, hown, hts, hnm, hk⟩ := F
  obtain ⟨x, hl, h⟩ := h
  exact lv_iload_n hx hb hdg rfl (hR.2.2.2.2.2.2 _ _ hl) (hK _ _ _ _ _ _ _ _ _ h hR)
theorem sm_iload {i : Nat} (F : pm_fix q D cy sa p s m args meth c) (hK : pm_KW l D cy base b sa sv p e R s m args below meth c Q z0 q.2.2.2.1 K) (h : pm_ex g C E q K pc ls st mem (.iload i)) (hR : pm_Rel D cy base b sa sv s z0 q.2.2.2.1 H locs cells slots Ls ls mem) (hdg : decode q.2.2.1 pc = .ok (.iload i, 2)) : W p l e R s m args below meth c H locs cells slots Q (F0 m pc Ls (st.map (pm_v base b sa))) := by
  obtain ⟨hx, hb, hml, hown, hts, hnm, hk⟩ := F
  obtain ⟨x, hl, h⟩ := h
  exact lv_iload hx hb hdg (hR.2.2.2.2.2.2 _ _ hl) (hK _ _ _ _ _ _ _ _ _ h hR)
theorem sm_istore_n {i : Fin 4} (F : pm_fix q D cy sa p s m args meth c) (hK : pm_KW l D cy base b sa sv p e R s m args below meth c Q z0 q.2.2.2.1 K) (h : pm_ex g C E q K pc ls st mem (.istore_n i)) (hR : pm_Rel D cy base b sa sv s z0 q.2.2.2.1 H locs cells slots Ls ls mem) (hdg : decode q.2.2.1 pc = .ok (.istore_n i, 1)) : W p l e R s m args below meth c H locs cells slots Q (F0 m pc Ls (st.map (pm_v base b sa))) := by
  obtain ⟨hx, hb, hml, hown, hts, hnm, hk⟩ := F
  obtain ⟨x, r, rfl, ho, hn, h⟩ := h
  refine lv_istore_n hx hb hdg rfl hR.2.2.2.2.has hn rfl (fun ls2 hl2 => ?_)
  exact hK _ _ _ _ _ _ _ _ _ h ⟨hR.1, hR.2.1, hR.2.2.1, hR.2.2.2.1, pm_lh.st1 ho hl2⟩
theorem sm_istore {i : Nat} (F : pm_fix q D cy sa p s m args meth c) (hK : pm_KW l D cy base b sa sv p e R s m args below meth c Q z0 q.2.2.2.1 K) (h : pm_ex g C E q K pc ls st mem (.istore i)) (hR : pm_Rel D cy base b sa sv s z0 q.2.2.2.1 H locs cells slots Ls ls mem) (hdg : decode q.2.2.1 pc = .ok (.istore i, 2)) : W p l e R s m args below meth c H locs cells slots Q (F0 m pc Ls (st.map (pm_v base b sa))) := by
  obtain ⟨hx, hb, hml, hown, hts, hnm, hk⟩ := F
  obtain ⟨x, r, rfl, ho, hn, h⟩ := h
  refine lv_istore hx hb hdg hR.2.2.2.2.has hn rfl (fun ls2 hl2 => ?_)
  exact hK _ _ _ _ _ _ _ _ _ h ⟨hR.1, hR.2.1, hR.2.2.1, hR.2.2.2.1, pm_lh.st1 ho hl2⟩
theorem sm_lload_n {i : Fin 4} (F : pm_fix q D cy sa p s m args meth c) (hK : pm_KW l D cy base b sa sv p e R s m args below meth c Q z0 q.2.2.2.1 K) (h : pm_ex g C E q K pc ls st mem (.lload_n i)) (hR : pm_Rel D cy base b sa sv s z0 q.2.2.2.1 H locs cells slots Ls ls mem) (hdg : decode q.2.2.1 pc = .ok (.lload_n i, 1)) : W p l e R s m args below meth c H locs cells slots Q (F0 m pc Ls (st.map (pm_v base b sa))) := by
  obtain ⟨hx, hb, hml, hown, hts, hnm, hk⟩ := F
  obtain ⟨x, hl, h⟩ := h
  exact lv_lload_n hx hb hdg rfl (hR.2.2.2.2.2.2 _ _ hl) (hK _ _ _ _ _ _ _ _ _ h hR)
theorem sm_lload {i : Nat} (F : pm_fix q D cy sa p s m args meth c) (hK : pm_KW l D cy base b sa sv p e R s m args below meth c Q z0 q.2.2.2.1 K) (h : pm_ex g C E q K pc ls st mem (.lload i)) (hR : pm_Rel D cy base b sa sv s z0 q.2.2.2.1 H locs cells slots Ls ls mem) (hdg : decode q.2.2.1 pc = .ok (.lload i, 2)) : W p l e R s m args below meth c H locs cells slots Q (F0 m pc Ls (st.map (pm_v base b sa))) := by
  obtain ⟨hx, hb, hml, hown, hts, hnm, hk⟩ := F
  obtain ⟨x, hl, h⟩ := h
  exact lv_lload hx hb hdg (hR.2.2.2.2.2.2 _ _ hl) (hK _ _ _ _ _ _ _ _ _ h hR)
theorem sm_lstore_n {i : Fin 4} (F : pm_fix q D cy sa p s m args meth c) (hK : pm_KW l D cy base b sa sv p e R s m args below meth c Q z0 q.2.2.2.1 K) (h : pm_ex g C E q K pc ls st mem (.lstore_n i)) (hR : pm_Rel D cy base b sa sv s z0 q.2.2.2.1 H locs cells slots Ls ls mem) (hdg : decode q.2.2.1 pc = .ok (.lstore_n i, 1)) : W p l e R s m args below meth c H locs cells slots Q (F0 m pc Ls (st.map (pm_v base b sa))) := by
  obtain ⟨hx, hb, hml, hown, hts, hnm, hk⟩ := F
  obtain ⟨x, r, rfl, ho, hn, h⟩ := h
  refine lv_lstore_n hx hb hdg rfl hR.2.2.2.2.has hn rfl (fun ls2 hl2 => ?_)
  exact hK _ _ _ _ _ _ _ _ _ h ⟨hR.1, hR.2.1, hR.2.2.1, hR.2.2.2.1, pm_lh.st2 ho hl2⟩
theorem sm_lstore {i : Nat} (F : pm_fix q D cy sa p s m args meth c) (hK : pm_KW l D cy base b sa sv p e R s m args below meth c Q z0 q.2.2.2.1 K) (h : pm_ex g C E q K pc ls st mem (.lstore i)) (hR : pm_Rel D cy base b sa sv s z0 q.2.2.2.1 H locs cells slots Ls ls mem) (hdg : decode q.2.2.1 pc = .ok (.lstore i, 2)) : W p l e R s m args below meth c H locs cells slots Q (F0 m pc Ls (st.map (pm_v base b sa))) := by
  obtain ⟨hx, hb, hml, hown, hts, hnm, hk⟩ := F
  obtain ⟨x, r, rfl, ho, hn, h⟩ := h
  refine lv_lstore hx hb hdg hR.2.2.2.2.has hn rfl (fun ls2 hl2 => ?_)
  exact hK _ _ _ _ _ _ _ _ _ h ⟨hR.1, hR.2.1, hR.2.2.1, hR.2.2.2.1, pm_lh.st2 ho hl2⟩
theorem sm_aload_n {i : Fin 4} (F : pm_fix q D cy sa p s m args meth c) (hK : pm_KW l D cy base b sa sv p e R s m args below meth c Q z0 q.2.2.2.1 K) (h : pm_ex g C E q K pc ls st mem (.aload_n i)) (hR : pm_Rel D cy base b sa sv s z0 q.2.2.2.1 H locs cells slots Ls ls mem) (hdg : decode q.2.2.1 pc = .ok (.aload_n i, 1)) : W p l e R s m args below meth c H locs cells slots Q (F0 m pc Ls (st.map (pm_v base b sa))) := by
  obtain ⟨hx, hb, hml, hown, hts, hnm, hk⟩ := F
  obtain ⟨x, hl, h⟩ := h
  exact lv_aload_n hx hb hdg rfl (hR.2.2.2.2.2.2 _ _ hl) (hK _ _ _ _ _ _ _ _ _ h hR)
theorem sm_aload {i : Nat} (F : pm_fix q D cy sa p s m args meth c) (hK : pm_KW l D cy base b sa sv p e R s m args below meth c Q z0 q.2.2.2.1 K) (h : pm_ex g C E q K pc ls st mem (.aload i)) (hR : pm_Rel D cy base b sa sv s z0 q.2.2.2.1 H locs cells slots Ls ls mem) (hdg : decode q.2.2.1 pc = .ok (.aload i, 2)) : W p l e R s m args below meth c H locs cells slots Q (F0 m pc Ls (st.map (pm_v base b sa))) := by
  obtain ⟨hx, hb, hml, hown, hts, hnm, hk⟩ := F
  obtain ⟨x, hl, h⟩ := h
  exact lv_aload hx hb hdg (hR.2.2.2.2.2.2 _ _ hl) (hK _ _ _ _ _ _ _ _ _ h hR)
theorem sm_astore_n {i : Fin 4} (F : pm_fix q D cy sa p s m args meth c) (hK : pm_KW l D cy base b sa sv p e R s m args below meth c Q z0 q.2.2.2.1 K) (h : pm_ex g C E q K pc ls st mem (.astore_n i)) (hR : pm_Rel D cy base b sa sv s z0 q.2.2.2.1 H locs cells slots Ls ls mem) (hdg : decode q.2.2.1 pc = .ok (.astore_n i, 1)) : W p l e R s m args below meth c H locs cells slots Q (F0 m pc Ls (st.map (pm_v base b sa))) := by
  obtain ⟨hx, hb, hml, hown, hts, hnm, hk⟩ := F
  obtain ⟨x, r, rfl, ho, hn, h⟩ := h
  refine lv_astore_n hx hb hdg rfl hR.2.2.2.2.has hn rfl (fun ls2 hl2 => ?_)
  exact hK _ _ _ _ _ _ _ _ _ h ⟨hR.1, hR.2.1, hR.2.2.1, hR.2.2.2.1, pm_lh.st1 ho hl2⟩
theorem sm_astore {i : Nat} (F : pm_fix q D cy sa p s m args meth c) (hK : pm_KW l D cy base b sa sv p e R s m args below meth c Q z0 q.2.2.2.1 K) (h : pm_ex g C E q K pc ls st mem (.astore i)) (hR : pm_Rel D cy base b sa sv s z0 q.2.2.2.1 H locs cells slots Ls ls mem) (hdg : decode q.2.2.1 pc = .ok (.astore i, 2)) : W p l e R s m args below meth c H locs cells slots Q (F0 m pc Ls (st.map (pm_v base b sa))) := by
  obtain ⟨hx, hb, hml, hown, hts, hnm, hk⟩ := F
  obtain ⟨x, r, rfl, ho, hn, h⟩ := h
  refine lv_astore hx hb hdg hR.2.2.2.2.has hn rfl (fun ls2 hl2 => ?_)
  exact hK _ _ _ _ _ _ _ _ _ h ⟨hR.1, hR.2.1, hR.2.2.1, hR.2.2.2.1, pm_lh.st1 ho hl2⟩
theorem sm_iinc {i : Nat} {k : Int} (F : pm_fix q D cy sa p s m args meth c) (hK : pm_KW l D cy base b sa sv p e R s m args below meth c Q z0 q.2.2.2.1 K) (h : pm_ex g C E q K pc ls st mem (.iinc i k)) (hR : pm_Rel D cy base b sa sv s z0 q.2.2.2.1 H locs cells slots Ls ls mem) (hdg : decode q.2.2.1 pc = .ok (.iinc i k, 3)) : W p l e R s m args below meth c H locs cells slots Q (F0 m pc Ls (st.map (pm_v base b sa))) := by
  obtain ⟨hx, hb, hml, hown, hts, hnm, hk⟩ := F
  obtain ⟨x, hl, ho, hn, h⟩ := h
  obtain ⟨j, hj⟩ := List.getElem?_of_mem (pm_al_in (base := base) (b := b) (sa := sa) hl)
  refine lv_iinc hx hb hdg hR.2.2.2.2.has hj rfl hn rfl (fun ls2 hl2 => ?_)
  exact hK _ _ _ _ _ _ _ _ _ h ⟨hR.1, hR.2.1, hR.2.2.1, hR.2.2.2.1, pm_lh.st1 (v := .int (x + Int32.ofInt k)) ho hl2⟩
theorem sm_iadd  (F : pm_fix q D cy sa p s m args meth c) (hK : pm_KW l D cy base b sa sv p e R s m args below meth c Q z0 q.2.2.2.1 K) (h : pm_ex g C E q K pc ls st mem (.iadd)) (hR : pm_Rel D cy base b sa sv s z0 q.2.2.2.1 H locs cells slots Ls ls mem) (hdg : decode q.2.2.1 pc = .ok (.iadd, 1)) : W p l e R s m args below meth c H locs cells slots Q (F0 m pc Ls (st.map (pm_v base b sa))) := by
  obtain ⟨hx, hb, hml, hown, hts, hnm, hk⟩ := F
  obtain ⟨x, y, r, rfl, h⟩ := h
  exact lv_iadd hx hb hdg (hK _ _ _ _ _ _ _ _ _ h hR)
theorem sm_isub  (F : pm_fix q D cy sa p s m args meth c) (hK : pm_KW l D cy base b sa sv p e R s m args below meth c Q z0 q.2.2.2.1 K) (h : pm_ex g C E q K pc ls st mem (.isub)) (hR : pm_Rel D cy base b sa sv s z0 q.2.2.2.1 H locs cells slots Ls ls mem) (hdg : decode q.2.2.1 pc = .ok (.isub, 1)) : W p l e R s m args below meth c H locs cells slots Q (F0 m pc Ls (st.map (pm_v base b sa))) := by
  obtain ⟨hx, hb, hml, hown, hts, hnm, hk⟩ := F
  obtain ⟨x, y, r, rfl, h⟩ := h
  exact lv_isub hx hb hdg (hK _ _ _ _ _ _ _ _ _ h hR)
theorem sm_imul  (F : pm_fix q D cy sa p s m args meth c) (hK : pm_KW l D cy base b sa sv p e R s m args below meth c Q z0 q.2.2.2.1 K) (h : pm_ex g C E q K pc ls st mem (.imul)) (hR : pm_Rel D cy base b sa sv s z0 q.2.2.2.1 H locs cells slots Ls ls mem) (hdg : decode q.2.2.1 pc = .ok (.imul, 1)) : W p l e R s m args below meth c H locs cells slots Q (F0 m pc Ls (st.map (pm_v base b sa))) := by
  obtain ⟨hx, hb, hml, hown, hts, hnm, hk⟩ := F
  obtain ⟨x, y, r, rfl, h⟩ := h
  exact lv_imul hx hb hdg (hK _ _ _ _ _ _ _ _ _ h hR)
theorem sm_iand  (F : pm_fix q D cy sa p s m args meth c) (hK : pm_KW l D cy base b sa sv p e R s m args below meth c Q z0 q.2.2.2.1 K) (h : pm_ex g C E q K pc ls st mem (.iand)) (hR : pm_Rel D cy base b sa sv s z0 q.2.2.2.1 H locs cells slots Ls ls mem) (hdg : decode q.2.2.1 pc = .ok (.iand, 1)) : W p l e R s m args below meth c H locs cells slots Q (F0 m pc Ls (st.map (pm_v base b sa))) := by
  obtain ⟨hx, hb, hml, hown, hts, hnm, hk⟩ := F
  obtain ⟨x, y, r, rfl, h⟩ := h
  exact lv_iand hx hb hdg (hK _ _ _ _ _ _ _ _ _ h hR)
theorem sm_ior  (F : pm_fix q D cy sa p s m args meth c) (hK : pm_KW l D cy base b sa sv p e R s m args below meth c Q z0 q.2.2.2.1 K) (h : pm_ex g C E q K pc ls st mem (.ior)) (hR : pm_Rel D cy base b sa sv s z0 q.2.2.2.1 H locs cells slots Ls ls mem) (hdg : decode q.2.2.1 pc = .ok (.ior, 1)) : W p l e R s m args below meth c H locs cells slots Q (F0 m pc Ls (st.map (pm_v base b sa))) := by
  obtain ⟨hx, hb, hml, hown, hts, hnm, hk⟩ := F
  obtain ⟨x, y, r, rfl, h⟩ := h
  exact lv_ior hx hb hdg (hK _ _ _ _ _ _ _ _ _ h hR)
theorem sm_ixor  (F : pm_fix q D cy sa p s m args meth c) (hK : pm_KW l D cy base b sa sv p e R s m args below meth c Q z0 q.2.2.2.1 K) (h : pm_ex g C E q K pc ls st mem (.ixor)) (hR : pm_Rel D cy base b sa sv s z0 q.2.2.2.1 H locs cells slots Ls ls mem) (hdg : decode q.2.2.1 pc = .ok (.ixor, 1)) : W p l e R s m args below meth c H locs cells slots Q (F0 m pc Ls (st.map (pm_v base b sa))) := by
  obtain ⟨hx, hb, hml, hown, hts, hnm, hk⟩ := F
  obtain ⟨x, y, r, rfl, h⟩ := h
  exact lv_ixor hx hb hdg (hK _ _ _ _ _ _ _ _ _ h hR)
theorem sm_ishl  (F : pm_fix q D cy sa p s m args meth c) (hK : pm_KW l D cy base b sa sv p e R s m args below meth c Q z0 q.2.2.2.1 K) (h : pm_ex g C E q K pc ls st mem (.ishl)) (hR : pm_Rel D cy base b sa sv s z0 q.2.2.2.1 H locs cells slots Ls ls mem) (hdg : decode q.2.2.1 pc = .ok (.ishl, 1)) : W p l e R s m args below meth c H locs cells slots Q (F0 m pc Ls (st.map (pm_v base b sa))) := by
  obtain ⟨hx, hb, hml, hown, hts, hnm, hk⟩ := F
  obtain ⟨x, y, r, rfl, h⟩ := h
  exact lv_ishl hx hb hdg (hK _ _ _ _ _ _ _ _ _ h hR)
theorem sm_ishr  (F : pm_fix q D cy sa p s m args meth c) (hK : pm_KW l D cy base b sa sv p e R s m args below meth c Q z0 q.2.2.2.1 K) (h : pm_ex g C E q K pc ls st mem (.ishr)) (hR : pm_Rel D cy base b sa sv s z0 q.2.2.2.1 H locs cells slots Ls ls mem) (hdg : decode q.2.2.1 pc = .ok (.ishr, 1)) : W p l e R s m args below meth c H locs cells slots Q (F0 m pc Ls (st.map (pm_v base b sa))) := by
  obtain ⟨hx, hb, hml, hown, hts, hnm, hk⟩ := F
  obtain ⟨x, y, r, rfl, h⟩ := h
  exact lv_ishr hx hb hdg (hK _ _ _ _ _ _ _ _ _ h hR)
theorem sm_iushr  (F : pm_fix q D cy sa p s m args meth c) (hK : pm_KW l D cy base b sa sv p e R s m args below meth c Q z0 q.2.2.2.1 K) (h : pm_ex g C E q K pc ls st mem (.iushr)) (hR : pm_Rel D cy base b sa sv s z0 q.2.2.2.1 H locs cells slots Ls ls mem) (hdg : decode q.2.2.1 pc = .ok (.iushr, 1)) : W p l e R s m args below meth c H locs cells slots Q (F0 m pc Ls (st.map (pm_v base b sa))) := by
  obtain ⟨hx, hb, hml, hown, hts, hnm, hk⟩ := F
  obtain ⟨x, y, r, rfl, h⟩ := h
  exact lv_iushr hx hb hdg rfl (hK _ _ _ _ _ _ _ _ _ h hR)
theorem sm_ladd  (F : pm_fix q D cy sa p s m args meth c) (hK : pm_KW l D cy base b sa sv p e R s m args below meth c Q z0 q.2.2.2.1 K) (h : pm_ex g C E q K pc ls st mem (.ladd)) (hR : pm_Rel D cy base b sa sv s z0 q.2.2.2.1 H locs cells slots Ls ls mem) (hdg : decode q.2.2.1 pc = .ok (.ladd, 1)) : W p l e R s m args below meth c H locs cells slots Q (F0 m pc Ls (st.map (pm_v base b sa))) := by
  obtain ⟨hx, hb, hml, hown, hts, hnm, hk⟩ := F
  obtain ⟨x, y, r, rfl, h⟩ := h
  exact lv_ladd hx hb hdg (hK _ _ _ _ _ _ _ _ _ h hR)
theorem sm_lmul  (F : pm_fix q D cy sa p s m args meth c) (hK : pm_KW l D cy base b sa sv p e R s m args below meth c Q z0 q.2.2.2.1 K) (h : pm_ex g C E q K pc ls st mem (.lmul)) (hR : pm_Rel D cy base b sa sv s z0 q.2.2.2.1 H locs cells slots Ls ls mem) (hdg : decode q.2.2.1 pc = .ok (.lmul, 1)) : W p l e R s m args below meth c H locs cells slots Q (F0 m pc Ls (st.map (pm_v base b sa))) := by
  obtain ⟨hx, hb, hml, hown, hts, hnm, hk⟩ := F
  obtain ⟨x, y, r, rfl, h⟩ := h
  exact lv_lmul hx hb hdg (hK _ _ _ _ _ _ _ _ _ h hR)
theorem sm_idiv  (F : pm_fix q D cy sa p s m args meth c) (hK : pm_KW l D cy base b sa sv p e R s m args below meth c Q z0 q.2.2.2.1 K) (h : pm_ex g C E q K pc ls st mem (.idiv)) (hR : pm_Rel D cy base b sa sv s z0 q.2.2.2.1 H locs cells slots Ls ls mem) (hdg : decode q.2.2.1 pc = .ok (.idiv, 1)) : W p l e R s m args below meth c H locs cells slots Q (F0 m pc Ls (st.map (pm_v base b sa))) := by
  obtain ⟨hx, hb, hml, hown, hts, hnm, hk⟩ := F
  obtain ⟨x, y, r, rfl, hy, h⟩ := h
  exact lv_idiv hx hb hdg hy (hK _ _ _ _ _ _ _ _ _ h hR)
theorem sm_irem  (F : pm_fix q D cy sa p s m args meth c) (hK : pm_KW l D cy base b sa sv p e R s m args below meth c Q z0 q.2.2.2.1 K) (h : pm_ex g C E q K pc ls st mem (.irem)) (hR : pm_Rel D cy base b sa sv s z0 q.2.2.2.1 H locs cells slots Ls ls mem) (hdg : decode q.2.2.1 pc = .ok (.irem, 1)) : W p l e R s m args below meth c H locs cells slots Q (F0 m pc Ls (st.map (pm_v base b sa))) := by
  obtain ⟨hx, hb, hml, hown, hts, hnm, hk⟩ := F
  obtain ⟨x, y, r, rfl, hy, h⟩ := h
  exact lv_irem hx hb hdg hy (hK _ _ _ _ _ _ _ _ _ h hR)
theorem sm_ldiv  (F : pm_fix q D cy sa p s m args meth c) (hK : pm_KW l D cy base b sa sv p e R s m args below meth c Q z0 q.2.2.2.1 K) (h : pm_ex g C E q K pc ls st mem (.ldiv)) (hR : pm_Rel D cy base b sa sv s z0 q.2.2.2.1 H locs cells slots Ls ls mem) (hdg : decode q.2.2.1 pc = .ok (.ldiv, 1)) : W p l e R s m args below meth c H locs cells slots Q (F0 m pc Ls (st.map (pm_v base b sa))) := by
  obtain ⟨hx, hb, hml, hown, hts, hnm, hk⟩ := F
  obtain ⟨x, y, r, rfl, hy, h⟩ := h
  exact lv_ldiv hx hb hdg hy (hK _ _ _ _ _ _ _ _ _ h hR)
theorem sm_lrem  (F : pm_fix q D cy sa p s m args meth c) (hK : pm_KW l D cy base b sa sv p e R s m args below meth c Q z0 q.2.2.2.1 K) (h : pm_ex g C E q K pc ls st mem (.lrem)) (hR : pm_Rel D cy base b sa sv s z0 q.2.2.2.1 H locs cells slots Ls ls mem) (hdg : decode q.2.2.1 pc = .ok (.lrem, 1)) : W p l e R s m args below meth c H locs cells slots Q (F0 m pc Ls (st.map (pm_v base b sa))) := by
  obtain ⟨hx, hb, hml, hown, hts, hnm, hk⟩ := F
  obtain ⟨x, y, r, rfl, hy, h⟩ := h
  exact lv_lrem hx hb hdg hy (hK _ _ _ _ _ _ _ _ _ h hR)
theorem sm_lcmp  (F : pm_fix q D cy sa p s m args meth c) (hK : pm_KW l D cy base b sa sv p e R s m args below meth c Q z0 q.2.2.2.1 K) (h : pm_ex g C E q K pc ls st mem (.lcmp)) (hR : pm_Rel D cy base b sa sv s z0 q.2.2.2.1 H locs cells slots Ls ls mem) (hdg : decode q.2.2.1 pc = .ok (.lcmp, 1)) : W p l e R s m args below meth c H locs cells slots Q (F0 m pc Ls (st.map (pm_v base b sa))) := by
  obtain ⟨hx, hb, hml, hown, hts, hnm, hk⟩ := F
  obtain ⟨x, y, r, rfl, h⟩ := h
  exact W.lcmp hx hb hdg (hK _ _ _ _ _ _ _ _ _ h hR)
theorem sm_i2l  (F : pm_fix q D cy sa p s m args meth c) (hK : pm_KW l D cy base b sa sv p e R s m args below meth c Q z0 q.2.2.2.1 K) (h : pm_ex g C E q K pc ls st mem (.i2l)) (hR : pm_Rel D cy base b sa sv s z0 q.2.2.2.1 H locs cells slots Ls ls mem) (hdg : decode q.2.2.1 pc = .ok (.i2l, 1)) : W p l e R s m args below meth c H locs cells slots Q (F0 m pc Ls (st.map (pm_v base b sa))) := by
  obtain ⟨hx, hb, hml, hown, hts, hnm, hk⟩ := F
  obtain ⟨x, r, rfl, h⟩ := h
  exact lv_i2l hx hb hdg rfl (hK _ _ _ _ _ _ _ _ _ h hR)
theorem sm_l2i  (F : pm_fix q D cy sa p s m args meth c) (hK : pm_KW l D cy base b sa sv p e R s m args below meth c Q z0 q.2.2.2.1 K) (h : pm_ex g C E q K pc ls st mem (.l2i)) (hR : pm_Rel D cy base b sa sv s z0 q.2.2.2.1 H locs cells slots Ls ls mem) (hdg : decode q.2.2.1 pc = .ok (.l2i, 1)) : W p l e R s m args below meth c H locs cells slots Q (F0 m pc Ls (st.map (pm_v base b sa))) := by
  obtain ⟨hx, hb, hml, hown, hts, hnm, hk⟩ := F
  obtain ⟨x, r, rfl, h⟩ := h
  exact lv_l2i hx hb hdg rfl (hK _ _ _ _ _ _ _ _ _ h hR)
theorem sm_i2b  (F : pm_fix q D cy sa p s m args meth c) (hK : pm_KW l D cy base b sa sv p e R s m args below meth c Q z0 q.2.2.2.1 K) (h : pm_ex g C E q K pc ls st mem (.i2b)) (hR : pm_Rel D cy base b sa sv s z0 q.2.2.2.1 H locs cells slots Ls ls mem) (hdg : decode q.2.2.1 pc = .ok (.i2b, 1)) : W p l e R s m args below meth c H locs cells slots Q (F0 m pc Ls (st.map (pm_v base b sa))) := by
  obtain ⟨hx, hb, hml, hown, hts, hnm, hk⟩ := F
  obtain ⟨x, r, rfl, h⟩ := h
  exact lv_i2b hx hb hdg rfl (hK _ _ _ _ _ _ _ _ _ h hR)
theorem sm_ineg  (F : pm_fix q D cy sa p s m args meth c) (hK : pm_KW l D cy base b sa sv p e R s m args below meth c Q z0 q.2.2.2.1 K) (h : pm_ex g C E q K pc ls st mem (.ineg)) (hR : pm_Rel D cy base b sa sv s z0 q.2.2.2.1 H locs cells slots Ls ls mem) (hdg : decode q.2.2.1 pc = .ok (.ineg, 1)) : W p l e R s m args below meth c H locs cells slots Q (F0 m pc Ls (st.map (pm_v base b sa))) := by
  obtain ⟨hx, hb, hml, hown, hts, hnm, hk⟩ := F
  obtain ⟨x, r, rfl, h⟩ := h
  exact lv_ineg hx hb hdg (hK _ _ _ _ _ _ _ _ _ h hR)
theorem sm_dup  (F : pm_fix q D cy sa p s m args meth c) (hK : pm_KW l D cy base b sa sv p e R s m args below meth c Q z0 q.2.2.2.1 K) (h : pm_ex g C E q K pc ls st mem (.dup)) (hR : pm_Rel D cy base b sa sv s z0 q.2.2.2.1 H locs cells slots Ls ls mem) (hdg : decode q.2.2.1 pc = .ok (.dup, 1)) : W p l e R s m args below meth c H locs cells slots Q (F0 m pc Ls (st.map (pm_v base b sa))) := by
  obtain ⟨hx, hb, hml, hown, hts, hnm, hk⟩ := F
  obtain ⟨v, r, rfl, hv, h⟩ := h
  exact lv_dup hx hb hdg ((pm_v_cat v).trans hv) (hK _ _ _ _ _ _ _ _ _ h hR)
theorem sm_dup2  (F : pm_fix q D cy sa p s m args meth c) (hK : pm_KW l D cy base b sa sv p e R s m args below meth c Q z0 q.2.2.2.1 K) (h : pm_ex g C E q K pc ls st mem (.dup2)) (hR : pm_Rel D cy base b sa sv s z0 q.2.2.2.1 H locs cells slots Ls ls mem) (hdg : decode q.2.2.1 pc = .ok (.dup2, 1)) : W p l e R s m args below meth c H locs cells slots Q (F0 m pc Ls (st.map (pm_v base b sa))) := by
  obtain ⟨hx, hb, hml, hown, hts, hnm, hk⟩ := F
  obtain ⟨v, w, r, rfl, hv, hw, h⟩ := h
  exact lv_dup2_11 hx hb hdg ((pm_v_cat v).trans hv) ((pm_v_cat w).trans hw) (hK _ _ _ _ _ _ _ _ _ h hR)
theorem sm_pop  (F : pm_fix q D cy sa p s m args meth c) (hK : pm_KW l D cy base b sa sv p e R s m args below meth c Q z0 q.2.2.2.1 K) (h : pm_ex g C E q K pc ls st mem (.pop)) (hR : pm_Rel D cy base b sa sv s z0 q.2.2.2.1 H locs cells slots Ls ls mem) (hdg : decode q.2.2.1 pc = .ok (.pop, 1)) : W p l e R s m args below meth c H locs cells slots Q (F0 m pc Ls (st.map (pm_v base b sa))) := by
  obtain ⟨hx, hb, hml, hown, hts, hnm, hk⟩ := F
  obtain ⟨v, r, rfl, hv, h⟩ := h
  exact lv_pop hx hb hdg ((pm_v_cat v).trans hv) (hK _ _ _ _ _ _ _ _ _ h hR)
theorem sm_goto {off : Int} (F : pm_fix q D cy sa p s m args meth c) (hK : pm_KW l D cy base b sa sv p e R s m args below meth c Q z0 q.2.2.2.1 K) (h : pm_ex g C E q K pc ls st mem (.goto off)) (hR : pm_Rel D cy base b sa sv s z0 q.2.2.2.1 H locs cells slots Ls ls mem) (hdg : decode q.2.2.1 pc = .ok (.goto off, 3)) : W p l e R s m args below meth c H locs cells slots Q (F0 m pc Ls (st.map (pm_v base b sa))) := by
  obtain ⟨hx, hb, hml, hown, hts, hnm, hk⟩ := F
  obtain ⟨tg, ht, h⟩ := h
  exact lv_goto hx hb hdg ht (hK _ _ _ _ _ _ _ _ _ h hR)
theorem sm_ifCond {k : Jvm.ClassFile.Cond} {off : Int} (F : pm_fix q D cy sa p s m args meth c) (hK : pm_KW l D cy base b sa sv p e R s m args below meth c Q z0 q.2.2.2.1 K) (h : pm_ex g C E q K pc ls st mem (.ifCond k off)) (hR : pm_Rel D cy base b sa sv s z0 q.2.2.2.1 H locs cells slots Ls ls mem) (hdg : decode q.2.2.1 pc = .ok (.ifCond k off, 3)) : W p l e R s m args below meth c H locs cells slots Q (F0 m pc Ls (st.map (pm_v base b sa))) := by
  obtain ⟨hx, hb, hml, hown, hts, hnm, hk⟩ := F
  obtain ⟨x, r, tg, rfl, ht, h1, h2⟩ := h
  cases k
  · exact lv_if_eq hx hb hdg ht (fun hc => hK _ _ _ _ _ _ _ _ _ (h1 hc) hR) (fun hc => hK _ _ _ _ _ _ _ _ _ (h2 hc) hR)
  · exact lv_if_ne hx hb hdg ht (fun hc => hK _ _ _ _ _ _ _ _ _ (h1 hc) hR) (fun hc => hK _ _ _ _ _ _ _ _ _ (h2 (fun z => z hc)) hR)
  · exact lv_if_lt hx hb hdg ht (fun hc => hK _ _ _ _ _ _ _ _ _ (h1 hc) hR) (fun hc => hK _ _ _ _ _ _ _ _ _ (h2 hc) hR)
  · exact lv_if_ge hx hb hdg ht (fun hc => hK _ _ _ _ _ _ _ _ _ (h1 hc) hR) (fun hc => hK _ _ _ _ _ _ _ _ _ (h2 hc) hR)
  · exact lv_if_gt hx hb hdg ht (fun hc => hK _ _ _ _ _ _ _ _ _ (h1 hc) hR) (fun hc => hK _ _ _ _ _ _ _ _ _ (h2 hc) hR)
  · exact lv_if_le hx hb hdg ht (fun hc => hK _ _ _ _ _ _ _ _ _ (h1 hc) hR) (fun hc => hK _ _ _ _ _ _ _ _ _ (h2 hc) hR)
theorem sm_if_icmp {k : Jvm.ClassFile.Cond} {off : Int} (F : pm_fix q D cy sa p s m args meth c) (hK : pm_KW l D cy base b sa sv p e R s m args below meth c Q z0 q.2.2.2.1 K) (h : pm_ex g C E q K pc ls st mem (.if_icmp k off)) (hR : pm_Rel D cy base b sa sv s z0 q.2.2.2.1 H locs cells slots Ls ls mem) (hdg : decode q.2.2.1 pc = .ok (.if_icmp k off, 3)) : W p l e R s m args below meth c H locs cells slots Q (F0 m pc Ls (st.map (pm_v base b sa))) := by
  obtain ⟨hx, hb, hml, hown, hts, hnm, hk⟩ := F
  obtain ⟨x, y, r, tg, rfl, ht, h1, h2⟩ := h
  cases k
  · exact lv_icmp_eq hx hb hdg ht (fun hc => hK _ _ _ _ _ _ _ _ _ (h1 hc) hR) (fun hc => hK _ _ _ _ _ _ _ _ _ (h2 hc) hR)
  · exact lv_icmp_ne hx hb hdg ht (fun hc => hK _ _ _ _ _ _ _ _ _ (h1 hc) hR) (fun hc => hK _ _ _ _ _ _ _ _ _ (h2 (fun z => z hc)) hR)
  · exact lv_icmp_lt hx hb hdg ht (fun hc => hK _ _ _ _ _ _ _ _ _ (h1 hc) hR) (fun hc => hK _ _ _ _ _ _ _ _ _ (h2 hc) hR)
  · exact lv_icmp_ge hx hb hdg ht (fun hc => hK _ _ _ _ _ _ _ _ _ (h1 hc) hR) (fun hc => hK _ _ _ _ _ _ _ _ _ (h2 hc) hR)
  · exact lv_icmp_gt hx hb hdg ht (fun hc => hK _ _ _ _ _ _ _ _ _ (h1 hc) hR) (fun hc => hK _ _ _ _ _ _ _ _ _ (h2 hc) hR)
  · exact lv_icmp_le hx hb hdg ht (fun hc => hK _ _ _ _ _ _ _ _ _ (h1 hc) hR) (fun hc => hK _ _ _ _ _ _ _ _ _ (h2 hc) hR)
theorem sm_table {dflt lo hi : Int} {offs : Array Int} {len : Nat} (F : pm_fix q D cy sa p s m args meth c) (hK : pm_KW l D cy base b sa sv p e R s m args below meth c Q z0 q.2.2.2.1 K) (h : pm_ex g C E q K pc ls st mem (.tableswitch dflt lo hi offs)) (hR : pm_Rel D cy base b sa sv s z0 q.2.2.2.1 H locs cells slots Ls ls mem) (hdg : decode q.2.2.1 pc = .ok (.tableswitch dflt lo hi offs, len)) : W p l e R s m args below meth c H locs cells slots Q (F0 m pc Ls (st.map (pm_v base b sa))) := by
  obtain ⟨hx, hb, hml, hown, hts, hnm, hk⟩ := F
  obtain ⟨x, r, rfl, h | h⟩ := h
  · obtain ⟨tg, hc, ht, h⟩ := h
    exact lv_tableOut hx hb hdg hc ht (hK _ _ _ _ _ _ _ _ _ h hR)
  · obtain ⟨off, tg, h1, h2, ho, ht, h⟩ := h
    exact lv_tableIn hx hb hdg h1 h2 ho ht (hK _ _ _ _ _ _ _ _ _ h hR)
theorem sm_lookup {dflt : Int} {ps : Array (Int × Int)} {len : Nat} (F : pm_fix q D cy sa p s m args meth c) (hK : pm_KW l D cy base b sa sv p e R s m args below meth c Q z0 q.2.2.2.1 K) (h : pm_ex g C E q K pc ls st mem (.lookupswitch dflt ps)) (hR : pm_Rel D cy base b sa sv s z0 q.2.2.2.1 H locs cells slots Ls ls mem) (hdg : decode q.2.2.1 pc = .ok (.lookupswitch dflt ps, len)) : W p l e R s m args below meth c H locs cells slots Q (F0 m pc Ls (st.map (pm_v base b sa))) := by
  obtain ⟨hx, hb, hml, hown, hts, hnm, hk⟩ := F
  obtain ⟨x, r, tg, rfl, hs, ht, h⟩ := h
  exact lv_lookup hx hb hdg hs rfl ht (hK _ _ _ _ _ _ _ _ _ h hR)
end SIM
end
section
/-! ===== fields and arrays ===== -/
theorem k_cl_ok : ∀ (c : Nat) (r : vw_C), k_cl[c]? = some r → (∀ w ∈ u_ws r.1 r.2.1 r.2.2, w ∈ pm_tbl) ∧ (∀ k, k < r.2.2 → parseFieldDescriptor (r.2.1 k).2.2.1 = some (k_ty c k)) ∧ (∀ a, a < r.2.2 → ∀ b, b < r.2.2 → a ≠ b → (r.2.1 a).2.1 ≠ (r.2.1 b).2.1) ∧ r.2.2 = k_nf c ∧ (∀ k, (r.2.1 k).2.2.2 = k_fin c k) ∧ r.1 = k_cn c ∧ (∀ k, k < r.2.2 → (r.2.1 k).1 = k_cn c) ∧ c < 13 ∧ Jvm.Cond.instantiable r.1 r.2.2 ∈ pm_tbl := by
  intro c r h
  match c, h with
  | 0, h => cases h; exact ⟨k_in0, k_o0, k_n0, rfl, fun _ => rfl, rfl, by decide, by decide, k_ins0⟩
  | 1, h => cases h; exact ⟨k_in1, k_o1, k_n1, rfl, fun _ => rfl, rfl, by decide, by decide, k_ins1⟩
  | 2, h => cases h; exact ⟨k_in2, k_o2, k_n2, rfl, fun _ => rfl, rfl, by decide, by decide, k_ins2⟩
  | 3, h => cases h; exact ⟨k_in3, k_o3, k_n3, rfl, fun _ => rfl, rfl, by decide, by decide, k_ins3⟩
  | 4, h => cases h; exact ⟨k_in4, k_o4, k_n4, rfl, fun _ => rfl, rfl, by decide, by decide, k_ins4⟩
  | 5, h => cases h; exact ⟨k_in5, k_o5, k_n5, rfl, fun _ => rfl, rfl, by decide, by decide, k_ins5⟩
  | 6, h => cases h; exact ⟨k_in6, k_o6, k_n6, rfl, fun _ => rfl, rfl, by decide, by decide, k_ins6⟩
  | 7, h => cases h; exact ⟨k_in7, k_o7, k_n7, rfl, fun _ => rfl, rfl, by decide, by decide, k_ins7⟩
  | 8, h => cases h; exact ⟨k_in8, k_o8, k_n8, rfl, fun _ => rfl, rfl, by decide, by decide, k_ins8⟩
  | 9, h => cases h; exact ⟨k_in9, k_o9, k_n9, rfl, fun _ => rfl, rfl, by decide, by decide, k_ins9⟩
  | 10, h => cases h; exact ⟨k_in10, k_o10, k_n10, rfl, fun _ => rfl, rfl, by decide, by decide, k_ins10⟩
  | 11, h => cases h; exact ⟨k_in11, k_o11, k_n11, rfl, fun _ => rfl, rfl, by decide, by decide, k_ins11⟩
  | 12, h => cases h; exact ⟨k_in12, k_o12, k_n12, rfl, fun _ => rfl, rfl, by decide, by decide, k_ins12⟩
  | c + 13, h => exact absurd (List.getElem?_eq_some_iff.mp h).1 (by simp [k_cl])
def k_isr (ty : FieldType) : Bool := match ty with
  | .object _ => true
  | .array _ => true
  | _ => false
theorem k_fc2 : ∀ t, t < 13 → ∀ j, j < k_nf t → k_fc t j = 2 → k_isr (k_ty t j) = true := by decide +kernel
section SIM2
variable {l : Launch} {D : va_G} {cy : Nat → ClassId} {base b : Nat} {sa sv : Nat → Nat} {p : Program} {e : Env} {R : Room} {s : State} {m : MethodId} {args : Array Value} {below : List Frame} {meth : Method} {c : Code} {Q : State → Prop} {z0 : Nat}
variable {g : Nat → Prop} {C : Nat → List Value → pm_M → Option Value → pm_M → Prop} {E : Option Value → pm_M → Prop} {q : pm_D} {K : Nat → pm_L → List Value → pm_M → Prop}
variable {pc : Nat} {ls : pm_L} {st : List Value} {mem mem' : pm_M} {H H1 : Heap} {locs locs1 : List Loc} {cells slots : Nat} {Ls : Array Slot}
theorem pm_e_obj {k t : Nat} (h : (mem.1.2.2 k).1 = t) (ht : t < 20) : pm_e base b sa cy mem k = .inr (t, pm_fs base b sa mem k t) := by
  unfold pm_e
  rw [h, if_pos ht]
theorem pm_e_int {k t : Nat} (h : (mem.1.2.2 k).1 = t) (ht : 20 ≤ t) (ht2 : t < 23) : pm_e base b sa cy mem k = .inl (cy (t - 20), (mem.1.2.2 k).2, .inl (mem.2.1 k)) := by
  unfold pm_e
  rw [h, if_neg (by omega), if_pos ht2]
theorem pm_e_ref {k t : Nat} (h : (mem.1.2.2 k).1 = t) (ht : 23 ≤ t) : pm_e base b sa cy mem k = .inl (cy (t - 20), (mem.1.2.2 k).2, .inr (.inr (.inr (.inr fun i => (mem.2.2.2 k i).map (pm_ad base b sa))))) := by
  unfold pm_e
  rw [h, if_neg (by omega), if_neg (by omega)]
theorem pm_fs_get {k t j : Nat} (hj : j < k_nf t) : (pm_fs base b sa mem k t)[j]? = some (pm_v base b sa (pm_fv mem k (k_fc t j) j)) := by
  unfold pm_fs
  rw [List.getElem?_map, List.getElem?_range hj]
  rfl
theorem pm_fs_set {k t j : Nat} {v : Value} (hj : j < k_nf t) (hv : pm_fv mem' k (k_fc t j) j = v) (ho : ∀ i, i ≠ j → pm_fv mem' k (k_fc t i) i = pm_fv mem k (k_fc t i) i) : (pm_fs base b sa mem k t).set j (pm_v base b sa v) = pm_fs base b sa mem' k t := by
  apply List.ext_getElem?
  intro i
  by_cases hi : i < k_nf t
  · by_cases hij : i = j
    · subst hij
      rw [List.getElem?_set_self (by simp [pm_fs, hi]), pm_fs_get hi, hv]
    · rw [List.getElem?_set_ne (fun h => hij h.symm), pm_fs_get hi, pm_fs_get hi, ho i hij]
  · rw [List.getElem?_eq_none (by simp [pm_fs]; omega), List.getElem?_eq_none (by simp [pm_fs]; omega)]
/-- the world behind a change of our own cells -/
theorem pm_GH.put (h : pm_GH D cy base b sa sv s H mem) (hS : va_S (pm_A base) s.heap H locs) (hS1 : va_S (pm_A base) s.heap H1 locs1) (hbs : base ≤ s.heap.size) (hP : va_P D k_cl (pm_ws base b sa cy mem') H1) (hn : mem'.1.1 < 999999) (h0 : mem'.1.2.2 0 = mem.1.2.2 0) (h1 : mem'.2.1 0 = mem.2.1 0) : pm_GH D cy base b sa sv s H1 mem' := by
  obtain ⟨-, -, hX, hV, hb⟩ := h
  have hq : ∀ a : Nat, a < H.size → ¬ pm_A base a → H1[a]? = H[a]? := fun a _ h2 => by
    have h3 : a < s.heap.size := Nat.lt_of_lt_of_le (Nat.not_le.mp h2) hbs
    rw [hS.2.1 a h3 h2, hS1.2.1 a h3 h2]
  refine ⟨hn, hP, ?_, hV.kept hq, hb⟩
  rw [h0, h1]
  have hbA : ¬ pm_A base b := Nat.not_le.mpr hb
  refine hX.kept ?_
  rw [hS.2.1 b (Nat.lt_of_lt_of_le hb hbs) hbA, hS1.2.1 b (Nat.lt_of_lt_of_le hb hbs) hbA]
theorem sm_getfield {i : Nat} (F : pm_fix q D cy sa p s m args meth c) (hK : pm_KW l D cy base b sa sv p e R s m args below meth c Q z0 q.2.2.2.1 K) (h : pm_ex g C E q K pc ls st mem (.getfield i)) (hR : pm_Rel D cy base b sa sv s z0 q.2.2.2.1 H locs cells slots Ls ls mem) (hdg : decode q.2.2.1 pc = .ok (.getfield i, 3)) : W p l e R s m args below meth c H locs cells slots Q (F0 m pc Ls (st.map (pm_v base b sa))) := by
  obtain ⟨hx, hb, hml, hown, hts, hnm, hk⟩ := F
  obtain ⟨k, r, t, j, rfl, hf, ⟨h1, h2, ht⟩, h⟩ := h
  obtain ⟨C0, T, N, hc, hj, hlk⟩ := k_fd_ok _ hf
  obtain ⟨o1, o2, o3, o4, o5, o6, o7, o8, -⟩ := k_cl_ok _ _ hc
  dsimp only at o8
  have he := pm_ws_get (base := base) (b := b) (sa := sa) (cy := cy) h1 h2
  rw [pm_e_obj ht (by omega)] at he
  refine va_get hx hb hts o1 hown hk.1 hR.1.2.1 _ he hc j hj (hts _ hlk) (fun _ h9 => h9) (pm_fs_get (by rw [← o4]; exact hj)) hdg ?_
  exact hK _ _ _ _ _ _ _ _ _ h hR
theorem pm_put {i k t j : Nat} {v : Value} {r : List Value} (F : pm_fix q D cy sa p s m args meth c) (hK : pm_KW l D cy base b sa sv p e R s m args below meth c Q z0 q.2.2.2.1 K) (hR : pm_Rel D cy base b sa sv s z0 q.2.2.2.1 H locs cells slots Ls ls mem) (hdg : decode q.2.2.1 pc = .ok (.putfield i, 3))
    (hf : (q.2.1, i, t, j) ∈ k_fd) (hi : pm_is mem k t) (hfi : k_fin t j = true → q.1.name = "<init>" ∧ q.2.1 = t) (hn : narrow (k_ty t j) (pm_v base b sa v) = pm_v base b sa v) (hfit : fits (k_ty t j) (pm_v base b sa v) = true) (hw : mem'.1 = mem.1) (h0 : mem'.2.1 0 = mem.2.1 0)
    (ho : ∀ a, a ≠ k → mem'.2.1 a = mem.2.1 a ∧ mem'.2.2.1 a = mem.2.2.1 a ∧ mem'.2.2.2 a = mem.2.2.2 a) (hv : pm_fv mem' k (k_fc t j) j = v) (ho2 : ∀ i, i ≠ j → pm_fv mem' k (k_fc t i) i = pm_fv mem k (k_fc t i) i) (h : K (pc + 3) ls r mem') :
    W p l e R s m args below meth c H locs cells slots Q (F0 m pc Ls (pm_v base b sa v :: .ref (pm_ad base b sa k) :: r.map (pm_v base b sa))) := by
  obtain ⟨hx, hb, hml, hown, hts, hnm, hk⟩ := F
  obtain ⟨h1, h2, ht⟩ := hi
  obtain ⟨C0, T, N, hc, hj, hlk⟩ := k_fd_ok _ hf
  obtain ⟨o1, o2, o3, o4, o5, o6, o7, o8, -⟩ := k_cl_ok _ _ hc
  dsimp only at hj o2 o3 o4 o5 o7 o8
  have hjn : j < k_nf t := by rw [← o4]; exact hj
  have he := pm_ws_get (base := base) (b := b) (sa := sa) (cy := cy) h1 h2
  rw [pm_e_obj ht (by omega)] at he
  have hws : (pm_ws base b sa cy mem).set (k - 1) (pm_ad base b sa k, .inr (t, (pm_fs base b sa mem k t).set j (pm_v base b sa v))) = pm_ws base b sa cy mem' := by
    refine pm_ws_set h1 h2 (by rw [hw]) (fun a ha => pm_e_congr (by rw [hw]) (ho a ha).1 (ho a ha).2.1 (ho a ha).2.2) ?_
    rw [pm_e_obj (mem := mem') (t := t) (by rw [hw]; exact ht) (by omega), pm_fs_set hjn hv ho2]
  have fin : ∀ (H1 : Heap) (locs1 : List Loc), va_P D k_cl ((pm_ws base b sa cy mem).set (k - 1) (pm_ad base b sa k, .inr (t, (pm_fs base b sa mem k t).set j (pm_v base b sa v)))) H1 → va_S (pm_A base) s.heap H1 locs1 → W p l e R s m args below meth c H1 locs1 cells slots Q (F0 m (pc + 3) Ls (r.map (pm_v base b sa))) := by
    intro H1 locs1 hP1 hS1
    rw [hws] at hP1
    refine hK _ _ _ _ _ _ _ _ _ h ⟨hR.1.put hR.2.1 hS1 hR.2.2.1.1 hP1 (by rw [hw]; exact hR.1.1) (by rw [hw]) h0, hS1, ?_, ?_, hR.2.2.2.2⟩
    · rw [hw]; exact hR.2.2.1
    · rw [hw]; exact hR.2.2.2.1
  by_cases hfin : k_fin t j = true
  · obtain ⟨hini, hot⟩ := hfi hfin
    exact va_putF hx hb hts o1 (k_ty t) o2 o3 hown hk.1 hR.1.2.1 (pm_D_ok hR.1.1) hR.2.1 _ he hc j hj (hts _ hlk) (fun _ h9 => h9) ((o5 j).trans hfin) (hnm.trans hini) (by rw [o7 j hj, hot]) (o2 j hj) hn hfit (by simp [pm_fs]; exact hjn) hdg (fun H1 locs1 hP1 _ hS1 => fin H1 locs1 hP1 hS1)
  · exact va_put hx hb hts o1 (k_ty t) o2 o3 hown hk.1 hR.1.2.1 (pm_D_ok hR.1.1) hR.2.1 _ he hc j hj (hts _ hlk) (fun _ h9 => h9) ((o5 j).trans (by simpa using hfin)) (o2 j hj) hn hfit (by simp [pm_fs]; exact hjn) hdg (fun H1 locs1 hP1 _ hS1 => fin H1 locs1 hP1 hS1)
theorem sm_putfield {i : Nat} (F : pm_fix q D cy sa p s m args meth c) (hK : pm_KW l D cy base b sa sv p e R s m args below meth c Q z0 q.2.2.2.1 K) (h : pm_ex g C E q K pc ls st mem (.putfield i)) (hR : pm_Rel D cy base b sa sv s z0 q.2.2.2.1 H locs cells slots Ls ls mem) (hdg : decode q.2.2.1 pc = .ok (.putfield i, 3)) : W p l e R s m args below meth c H locs cells slots Q (F0 m pc Ls (st.map (pm_v base b sa))) := by
  obtain ⟨v, k, r, t, j, rfl, hf, hi, hg, hfi, h⟩ := h
  have hk0 : (0 : Nat) ≠ k := by have := hi.1; omega
  rcases h with ⟨x, rfl, hc, h⟩ | ⟨x, rfl, hc, h⟩ | ⟨a, rfl, hc, h⟩
  · have ht : k_ty t j = .int := by
      unfold k_fc at hc
      split at hc <;> first | assumption | cases hc
    refine pm_put (mem' := (mem.1, pm_u mem.2.1 k j x, mem.2.2)) (v := .int x) F hK hR hdg hf hi hfi (by rw [ht]; rfl) (by rw [ht]; rfl) rfl (pm_u_ne hk0) (fun a ha => ⟨pm_u_ne ha, rfl, rfl⟩) (by rw [hc]; show Value.int (pm_u mem.2.1 k j x k j) = _; rw [pm_u_self]) (fun i hi => ?_) h
    unfold pm_fv
    split
    · show Value.int (pm_u mem.2.1 k j x k i) = _
      rw [pm_u_oth hi]
    · rfl
    · rfl
  · have ht : k_ty t j = .long := by
      unfold k_fc at hc
      split at hc <;> first | assumption | cases hc
    refine pm_put (mem' := (mem.1, mem.2.1, pm_u mem.2.2.1 k j x, mem.2.2.2)) (v := .long x) F hK hR hdg hf hi hfi (by rw [ht]; rfl) (by rw [ht]; rfl) rfl rfl (fun a ha => ⟨rfl, pm_u_ne ha, rfl⟩) (by rw [hc]; show Value.long (pm_u mem.2.2.1 k j x k j) = _; rw [pm_u_self]) (fun i hi => ?_) h
    unfold pm_fv
    split
    · rfl
    · show Value.long (pm_u mem.2.2.1 k j x k i) = _
      rw [pm_u_oth hi]
    · rfl
  · have hty : ∃ ty, k_ty t j = ty ∧ narrow ty (.ref (pm_ad base b sa a)) = .ref (pm_ad base b sa a) ∧ fits ty (.ref (pm_ad base b sa a)) = true := by
      obtain ⟨C0, T, N, hcl, hj, -⟩ := k_fd_ok _ hf
      obtain ⟨o1, o2, o3, o4, o5, o6, o7, o8, -⟩ := k_cl_ok _ _ hcl
      dsimp only at hj o8 o4
      have key := k_fc2 t o8 j (by rw [← o4]; exact hj) hc
      unfold k_isr at key
      split at key
      · rename_i o ho
        exact ⟨_, ho, rfl, rfl⟩
      · rename_i o ho
        exact ⟨_, ho, rfl, rfl⟩
      · cases key
    obtain ⟨ty, ht, hn, hfit⟩ := hty
    refine pm_put (mem' := (mem.1, mem.2.1, mem.2.2.1, pm_u mem.2.2.2 k j (some a))) (v := .ref a) F hK hR hdg hf hi hfi (by rw [ht]; exact hn) (by rw [ht]; exact hfit) rfl rfl (fun a ha => ⟨rfl, rfl, pm_u_ne ha⟩) (by rw [hc]; show va_rf (pm_u mem.2.2.2 k j (some a) k j) = _; rw [pm_u_self]; rfl) (fun i hi => ?_) h
    unfold pm_fv
    split
    · rfl
    · rfl
    · show va_rf (pm_u mem.2.2.2 k j (some a) k i) = _
      rw [pm_u_oth hi]
theorem sm_iaload (F : pm_fix q D cy sa p s m args meth c) (hK : pm_KW l D cy base b sa sv p e R s m args below meth c Q z0 q.2.2.2.1 K) (h : pm_ex g C E q K pc ls st mem .iaload) (hR : pm_Rel D cy base b sa sv s z0 q.2.2.2.1 H locs cells slots Ls ls mem) (hdg : decode q.2.2.1 pc = .ok (.iaload, 1)) : W p l e R s m args below meth c H locs cells slots Q (F0 m pc Ls (st.map (pm_v base b sa))) := by
  obtain ⟨hx, hb, hml, hown, hts, hnm, hk⟩ := F
  obtain ⟨i, k, r, rfl, hin, hkk, h⟩ := h
  rcases hkk with rfl | ⟨h1, h2, ht⟩
  · have hX : va_X b (mem.1.2.2 0).2 (mem.2.1 0) s s.heap := hR.1.2.2.1.kept (hR.2.1.2.1 b (Nat.lt_of_lt_of_le hR.1.2.2.2.2 hR.2.2.1.1) (Nat.not_le.mpr hR.1.2.2.2.2)).symm
    exact va_sld hx hb hX (Nat.lt_of_lt_of_le hR.1.2.2.2.2 hR.2.2.1.1) (Nat.not_le.mpr hR.1.2.2.2.2) hR.2.1 hin hdg (hK _ _ _ _ _ _ _ _ _ h hR)
  · have he := pm_ws_get (base := base) (b := b) (sa := sa) (cy := cy) h1 h2
    rw [pm_e_int ht (by omega) (by omega)] at he
    exact va_iald hx hb hk.1 hR.1.2.1 _ 0 he rfl hin hdg (hK _ _ _ _ _ _ _ _ _ h hR)
theorem sm_baload (F : pm_fix q D cy sa p s m args meth c) (hK : pm_KW l D cy base b sa sv p e R s m args below meth c Q z0 q.2.2.2.1 K) (h : pm_ex g C E q K pc ls st mem .baload) (hR : pm_Rel D cy base b sa sv s z0 q.2.2.2.1 H locs cells slots Ls ls mem) (hdg : decode q.2.2.1 pc = .ok (.baload, 1)) : W p l e R s m args below meth c H locs cells slots Q (F0 m pc Ls (st.map (pm_v base b sa))) := by
  obtain ⟨hx, hb, hml, hown, hts, hnm, hk⟩ := F
  obtain ⟨i, k, r, rfl, hin, hkk, h⟩ := h
  rcases hkk with ⟨h1, h2, ht⟩ | ⟨h1, h2, ht⟩
  · have he := pm_ws_get (base := base) (b := b) (sa := sa) (cy := cy) h1 h2
    rw [pm_e_int ht (by omega) (by omega)] at he
    exact va_bald hx hb hk.1 hR.1.2.1 _ 1 he rfl hin hdg (hK _ _ _ _ _ _ _ _ _ h hR)
  · have he := pm_ws_get (base := base) (b := b) (sa := sa) (cy := cy) h1 h2
    rw [pm_e_int ht (by omega) (by omega)] at he
    exact va_zald hx hb hk.1 hR.1.2.1 _ 2 he rfl hin hdg (hK _ _ _ _ _ _ _ _ _ h hR)
theorem pm_T_ref {t : Nat} (h1 : 23 ≤ t) (h2 : t ≤ 27) : ∃ ty, (pm_T cy)[t - 20]? = some (cy (t - 20), ty) ∧ k_isr ty = true ∧ (t ≤ 26 → ty = .object (k_an t)) := by
  match t, h1, h2 with
  | 23, _, _ => exact ⟨_, rfl, rfl, fun _ => rfl⟩
  | 24, _, _ => exact ⟨_, rfl, rfl, fun _ => rfl⟩
  | 25, _, _ => exact ⟨_, rfl, rfl, fun _ => rfl⟩
  | 26, _, _ => exact ⟨_, rfl, rfl, fun _ => rfl⟩
  | 27, _, _ => exact ⟨_, rfl, rfl, fun h => absurd h (by decide)⟩
  | t + 28, _, h2 => omega
theorem pm_aldr {cc : ByteArray} {cl : List vw_C} {tys : List (ClassId × FieldType)} {ws : va_W} {a : Nat} {rest : List Value} {ls : Array Slot} (hexec : p.tables.exec = Jvm.exec) (hb : c.code = cc) (hK : va_K D cl tys s) (hP : va_P D cl ws H) (q0 t0 : Nat) {cA : ClassId} {ty : FieldType} (hty : k_isr ty = true) {n : Nat} {f : Nat → Option Nat} (ha : ws[q0]? = some (a, .inl (cA, n, .inr (.inr (.inr (.inr f)))))) (ht : tys[t0]? = some (cA, ty)) {i : Int32} (hin : vp_in i n) (hdg : decode cc pc = .ok (.aaload, 1))
    (kk : W p l e R s m args below meth c H locs cells slots Q (F0 m (pc + 1) ls (va_rf (f i.toNatClampNeg) :: rest))) : W p l e R s m args below meth c H locs cells slots Q (F0 m pc ls (.int i :: .ref a :: rest)) := by
  have hlt : i.toNatClampNeg < n := Nat.not_le.mp fun q => hin (Or.inr q)
  unfold k_isr at hty
  split at hty
  · exact W.aald (v := va_rf (f i.toNatClampNeg)) hexec hb (hP q0 _ ha) ((hK.2 t0 _ ht).1 n (fun j => va_rf (f j))) rfl (fun q => by cases q) (by show ¬ (i < 0 ∨ (arrV _ _ _).slots.size ≤ _); rw [arrV_size]; exact hin) (by show (arrV _ _ _).slots[_]? = _; rw [arrV_read _ _ hlt]) rfl rfl hdg kk
  · exact W.aald (v := va_rf (f i.toNatClampNeg)) hexec hb (hP q0 _ ha) ((hK.2 t0 _ ht).1 n (fun j => va_rf (f j))) rfl (fun q => by cases q) (by show ¬ (i < 0 ∨ (arrV _ _ _).slots.size ≤ _); rw [arrV_size]; exact hin) (by show (arrV _ _ _).slots[_]? = _; rw [arrV_read _ _ hlt]) rfl rfl hdg kk
  · cases hty
theorem sm_aaload (F : pm_fix q D cy sa p s m args meth c) (hK : pm_KW l D cy base b sa sv p e R s m args below meth c Q z0 q.2.2.2.1 K) (h : pm_ex g C E q K pc ls st mem .aaload) (hR : pm_Rel D cy base b sa sv s z0 q.2.2.2.1 H locs cells slots Ls ls mem) (hdg : decode q.2.2.1 pc = .ok (.aaload, 1)) : W p l e R s m args below meth c H locs cells slots Q (F0 m pc Ls (st.map (pm_v base b sa))) := by
  obtain ⟨hx, hb, hml, hown, hts, hnm, hk⟩ := F
  obtain ⟨i, k, r, t, rfl, hin, t1, t2, ⟨h1, h2, ht⟩, h⟩ := h
  have he := pm_ws_get (base := base) (b := b) (sa := sa) (cy := cy) h1 h2
  rw [pm_e_ref ht t1] at he
  obtain ⟨ty, y1, y2, -⟩ := pm_T_ref (cy := cy) t1 t2
  refine pm_aldr hx hb hk.1 hR.1.2.1 _ (t - 20) y2 he y1 hin hdg ?_
  have h3 := hK _ _ _ _ _ _ _ _ _ h hR
  simp only [List.map_cons, pm_v_rf] at h3
  exact h3
/-- behind a store into a row of ours -/
theorem pm_row_put {k : Nat} {e' : va_E} {r : List Value} {pc' : Nat} (hK : pm_KW l D cy base b sa sv p e R s m args below meth c Q z0 q.2.2.2.1 K) (hR : pm_Rel D cy base b sa sv s z0 q.2.2.2.1 H locs cells slots Ls ls mem) (h1 : 1 ≤ k) (h2 : k ≤ mem.1.1) (hw : mem'.1 = mem.1) (h0 : mem'.2.1 0 = mem.2.1 0)
    (ho : ∀ a, a ≠ k → mem'.2.1 a = mem.2.1 a ∧ mem'.2.2.1 a = mem.2.2.1 a ∧ mem'.2.2.2 a = mem.2.2.2 a) (he : pm_e base b sa cy mem' k = e') (h : K pc' ls r mem') (H1 : Heap) (locs1 : List Loc) (hP1 : va_P D k_cl ((pm_ws base b sa cy mem).set (k - 1) (pm_ad base b sa k, e')) H1) (hS1 : va_S (pm_A base) s.heap H1 locs1) :
    W p l e R s m args below meth c H1 locs1 cells slots Q (F0 m pc' Ls (r.map (pm_v base b sa))) := by
  rw [pm_ws_set (mem' := mem') h1 h2 (by rw [hw]) (fun a ha => pm_e_congr (by rw [hw]) (ho a ha).1 (ho a ha).2.1 (ho a ha).2.2) he] at hP1
  refine hK _ _ _ _ _ _ _ _ _ h ⟨hR.1.put hR.2.1 hS1 hR.2.2.1.1 hP1 (by rw [hw]; exact hR.1.1) (by rw [hw]) h0, hS1, ?_, ?_, hR.2.2.2.2⟩
  · rw [hw]; exact hR.2.2.1
  · rw [hw]; exact hR.2.2.2.1
theorem sm_iastore (F : pm_fix q D cy sa p s m args meth c) (hK : pm_KW l D cy base b sa sv p e R s m args below meth c Q z0 q.2.2.2.1 K) (h : pm_ex g C E q K pc ls st mem .iastore) (hR : pm_Rel D cy base b sa sv s z0 q.2.2.2.1 H locs cells slots Ls ls mem) (hdg : decode q.2.2.1 pc = .ok (.iastore, 1)) : W p l e R s m args below meth c H locs cells slots Q (F0 m pc Ls (st.map (pm_v base b sa))) := by
  obtain ⟨hx, hb, hml, hown, hts, hnm, hk⟩ := F
  obtain ⟨x, i, k, r, rfl, hin, ⟨h1, h2, ht⟩, hg, h⟩ := h
  have he := pm_ws_get (base := base) (b := b) (sa := sa) (cy := cy) h1 h2
  rw [pm_e_int ht (by omega) (by omega)] at he
  refine va_iast hx hb hk.1 hR.1.2.1 (pm_D_ok hR.1.1) hR.2.1 _ 0 he rfl hin hdg (fun H1 locs1 hP1 _ hS1 => ?_)
  refine pm_row_put (mem' := (mem.1, pm_u mem.2.1 k i.toNatClampNeg x, mem.2.2)) hK hR h1 h2 rfl (pm_u_ne (by omega)) (fun a ha => ⟨pm_u_ne ha, rfl, rfl⟩) ?_ h H1 locs1 hP1 hS1
  exact (pm_e_int (mem := (mem.1, pm_u mem.2.1 k i.toNatClampNeg x, mem.2.2)) (t := 20) ht (by omega) (by omega)).trans (by show Sum.inl (_, _, Sum.inl (pm_u mem.2.1 k i.toNatClampNeg x k)) = _; rw [pm_u_row])
theorem sm_bastore (F : pm_fix q D cy sa p s m args meth c) (hK : pm_KW l D cy base b sa sv p e R s m args below meth c Q z0 q.2.2.2.1 K) (h : pm_ex g C E q K pc ls st mem .bastore) (hR : pm_Rel D cy base b sa sv s z0 q.2.2.2.1 H locs cells slots Ls ls mem) (hdg : decode q.2.2.1 pc = .ok (.bastore, 1)) : W p l e R s m args below meth c H locs cells slots Q (F0 m pc Ls (st.map (pm_v base b sa))) := by
  obtain ⟨hx, hb, hml, hown, hts, hnm, hk⟩ := F
  obtain ⟨x, i, k, r, rfl, hin, hg, ⟨⟨h1, h2, ht⟩, h⟩ | ⟨⟨h1, h2, ht⟩, h⟩⟩ := h
  · have he := pm_ws_get (base := base) (b := b) (sa := sa) (cy := cy) h1 h2
    rw [pm_e_int ht (by omega) (by omega)] at he
    refine va_bast hx hb hk.1 hR.1.2.1 (pm_D_ok hR.1.1) hR.2.1 _ 1 he rfl hin hdg (fun H1 locs1 hP1 _ hS1 => ?_)
    refine pm_row_put (mem' := (mem.1, pm_u mem.2.1 k i.toNatClampNeg (vp_nar .byte x), mem.2.2)) hK hR h1 h2 rfl (pm_u_ne (by omega)) (fun a ha => ⟨pm_u_ne ha, rfl, rfl⟩) ?_ h H1 locs1 hP1 hS1
    exact (pm_e_int (mem := (mem.1, pm_u mem.2.1 k i.toNatClampNeg (vp_nar .byte x), mem.2.2)) (t := 21) ht (by omega) (by omega)).trans (by show Sum.inl (_, _, Sum.inl (pm_u mem.2.1 k i.toNatClampNeg (vp_nar .byte x) k)) = _; rw [pm_u_row])
  · have he := pm_ws_get (base := base) (b := b) (sa := sa) (cy := cy) h1 h2
    rw [pm_e_int ht (by omega) (by omega)] at he
    refine va_zast hx hb hk.1 hR.1.2.1 (pm_D_ok hR.1.1) hR.2.1 _ 2 he rfl hin hdg (fun H1 locs1 hP1 _ hS1 => ?_)
    refine pm_row_put (mem' := (mem.1, pm_u mem.2.1 k i.toNatClampNeg (vp_nar .boolean x), mem.2.2)) hK hR h1 h2 rfl (pm_u_ne (by omega)) (fun a ha => ⟨pm_u_ne ha, rfl, rfl⟩) ?_ h H1 locs1 hP1 hS1
    exact (pm_e_int (mem := (mem.1, pm_u mem.2.1 k i.toNatClampNeg (vp_nar .boolean x), mem.2.2)) (t := 22) ht (by omega) (by omega)).trans (by show Sum.inl (_, _, Sum.inl (pm_u mem.2.1 k i.toNatClampNeg (vp_nar .boolean x) k)) = _; rw [pm_u_row])
theorem sm_arraylength (F : pm_fix q D cy sa p s m args meth c) (hK : pm_KW l D cy base b sa sv p e R s m args below meth c Q z0 q.2.2.2.1 K) (h : pm_ex g C E q K pc ls st mem .arraylength) (hR : pm_Rel D cy base b sa sv s z0 q.2.2.2.1 H locs cells slots Ls ls mem) (hdg : decode q.2.2.1 pc = .ok (.arraylength, 1)) : W p l e R s m args below meth c H locs cells slots Q (F0 m pc Ls (st.map (pm_v base b sa))) := by
  obtain ⟨hx, hb, hml, hown, hts, hnm, hk⟩ := F
  obtain ⟨k, r, rfl, hkk, h⟩ := h
  rcases hkk with rfl | ⟨t, t1, t2, h1, h2, ht⟩
  · have hX : va_X b (mem.1.2.2 0).2 (mem.2.1 0) s s.heap := hR.1.2.2.1.kept (hR.2.1.2.1 b (Nat.lt_of_lt_of_le hR.1.2.2.2.2 hR.2.2.1.1) (Nat.not_le.mpr hR.1.2.2.2.2)).symm
    exact va_slen hx hb hX (Nat.lt_of_lt_of_le hR.1.2.2.2.2 hR.2.2.1.1) (Nat.not_le.mpr hR.1.2.2.2.2) hR.2.1 hdg (hK _ _ _ _ _ _ _ _ _ h hR)
  · have he := pm_ws_get (base := base) (b := b) (sa := sa) (cy := cy) h1 h2
    have htt : ∃ ty, (pm_T cy)[t - 20]? = some (cy (t - 20), ty) := by
      match t, t1, t2 with
      | 20, _, _ => exact ⟨_, rfl⟩
      | 21, _, _ => exact ⟨_, rfl⟩
      | 22, _, _ => exact ⟨_, rfl⟩
      | 23, _, _ => exact ⟨_, rfl⟩
      | 24, _, _ => exact ⟨_, rfl⟩
      | 25, _, _ => exact ⟨_, rfl⟩
      | 26, _, _ => exact ⟨_, rfl⟩
      | 27, _, _ => exact ⟨_, rfl⟩
      | t + 28, _, h2 => omega
    obtain ⟨ty, y1⟩ := htt
    by_cases hlt : t < 23
    · rw [pm_e_int ht t1 hlt] at he
      exact va_alen hx hb hk.1 hR.1.2.1 _ _ he y1 rfl hdg (hK _ _ _ _ _ _ _ _ _ h hR)
    · rw [pm_e_ref ht (by omega)] at he
      exact va_alen hx hb hk.1 hR.1.2.1 _ _ he y1 rfl hdg (hK _ _ _ _ _ _ _ _ _ h hR)
end SIM2
end
section
/-! ===== stores of references, copies, Math, Object's own constructor, new cells ===== -/
def pm_Rm (base nE zE z0 d : Nat) (s : State) (R : Room) : Prop := d + 1 ≤ R.frames ∧ 1000 * d + 1000 ≤ R.locals ∧ base + nE ≤ s.heap.size + R.cells ∧ zE ≤ z0 + R.slots
section SIM3
variable {l : Launch} {D : va_G} {cy : Nat → ClassId} {base b : Nat} {sa sv : Nat → Nat} {p : Program} {e : Env} {R : Room} {s : State} {m : MethodId} {args : Array Value} {below : List Frame} {meth : Method} {c : Code} {Q : State → Prop} {z0 nE zE d : Nat}
variable {g : Nat → Prop} {C : Nat → List Value → pm_M → Option Value → pm_M → Prop} {E : Option Value → pm_M → Prop} {q : pm_D} {K : Nat → pm_L → List Value → pm_M → Prop}
variable {pc : Nat} {ls : pm_L} {st : List Value} {mem mem' : pm_M} {H H1 : Heap} {locs locs1 : List Loc} {cells slots : Nat} {Ls : Array Slot}
theorem W.sized {gf : JFrame} (kk : H.size ≤ s.heap.size + cells → W p l e R s m args below meth c H locs cells slots Q gf) : W p l e R s m args below meth c H locs cells slots Q gf := fun T hT X => kk (by rw [← hT]; exact X.heapSize) T hT X
/-- the heap is just as large as the memory says -/
theorem pm_Rel.size (hR : pm_Rel D cy base b sa sv s z0 q.2.2.2.1 H locs cells slots Ls ls mem) (h : H.size ≤ s.heap.size + cells) : H.size = base + mem.1.1 := by
  have hn := hR.1.1
  have h3 := hR.2.2.1.2
  rcases Nat.eq_zero_or_pos mem.1.1 with h0 | h0
  · have := hR.2.1.1
    have := hR.2.2.1.1
    omega
  · have h4 := (hR.1.2.1 _ _ (pm_ws_get (base := base) (b := b) (sa := sa) (cy := cy) h0 (Nat.le_refl _))).lt
    simp only [pm_ad_in (base := base) (b := b) (sa := sa) h0 (show mem.1.1 < 1000000 by omega)] at h4
    omega
theorem sm_objInit {i : Nat} (F : pm_fix q D cy sa p s m args meth c) (hK : pm_KW l D cy base b sa sv p e R s m args below meth c Q z0 q.2.2.2.1 K) (hRm : pm_Rm base nE zE z0 d s R) (hR : pm_Rel D cy base b sa sv s z0 q.2.2.2.1 H locs cells slots Ls ls mem) (hdg : decode q.2.2.1 pc = .ok (.invokespecial i, 3))
    (h : ∃ b r, st = .ref b :: r ∧ (q.2.1, i, 9, 0, 0, 0) ∈ k_cs ∧ (r.map fun v => v.category).sum ≤ 8 ∧ K (pc + 3) ls r mem) : W p l e R s m args below meth c H locs cells slots Q (F0 m pc Ls (st.map (pm_v base b sa))) := by
  obtain ⟨hx, hb, hml, hown, hts, hnm, hk⟩ := F
  obtain ⟨k, r, rfl, hc, hr, h⟩ := h
  obtain ⟨q0, -, -, hlk⟩ := k_cs_ok _ hc
  refine W.objInit (g := F0 m pc Ls _) (a := pm_ad base b sa k) (rest := r.map (pm_v base b sa)) hx hb hown (hts _ hlk) (hts _ kg_oi) (hts _ kg_ocode) rfl (by rw [hml]; exact hR.2.2.2.2.1) rfl hdg (Nat.le_trans (by omega) hRm.1) ?_ ?_
  · have := lv_room (m := m) (pc := pc) (ls := Ls) (rest := .ref (pm_ad base b sa k) :: r.map (pm_v base b sa)) (st := r.map (pm_v base b sa)) (by rw [pm_v_sum]; exact hr)
    have h2 := hRm.2.1
    exact Nat.le_trans (Nat.add_le_add_right this 12) (by omega)
  · exact hK _ _ _ _ _ _ _ _ _ h hR
theorem pm_cells (hRm : pm_Rm base nE zE z0 d s R) (hR : pm_Rel D cy base b sa sv s z0 q.2.2.2.1 H locs cells slots Ls ls mem) (hb : mem.1.1 ≤ nE ∧ mem.1.2.1 ≤ zE) : cells ≤ R.cells ∧ slots ≤ R.slots := by
  have h1 := hR.2.2.1.2
  have h2 := hR.2.2.2.1
  obtain ⟨-, -, h3, h4⟩ := hRm
  omega
theorem sm_math {i : Nat} (F : pm_fix q D cy sa p s m args meth c) (hK : pm_KW l D cy base b sa sv p e R s m args below meth c Q z0 q.2.2.2.1 K) (hKb : ∀ pc ls st mem, K pc ls st mem → mem.1.1 ≤ nE ∧ mem.1.2.1 ≤ zE) (hRm : pm_Rm base nE zE z0 d s R) (hR : pm_Rel D cy base b sa sv s z0 q.2.2.2.1 H locs cells slots Ls ls mem) (hdg : decode q.2.2.1 pc = .ok (.invokestatic i, 3))
    (h : (∃ x y r, st = .int y :: .int x :: r ∧ (q.2.1, i, 10, 0, 0, 0) ∈ k_cs ∧ (r.map fun v => v.category).sum ≤ 8 ∧ K (pc + 3) ls (.int (if x < y then y else x) :: r) mem) ∨
      (∃ x y r, st = .int y :: .int x :: r ∧ (q.2.1, i, 11, 0, 0, 0) ∈ k_cs ∧ (r.map fun v => v.category).sum ≤ 8 ∧ K (pc + 3) ls (.int (if y < x then y else x) :: r) mem) ∨
      ∃ x r, st = .int x :: r ∧ (q.2.1, i, 12, 0, 0, 0) ∈ k_cs ∧ (r.map fun v => v.category).sum ≤ 8 ∧ K (pc + 3) ls (.int (if 0 ≤ x then x else 0 - x) :: r) mem) : W p l e R s m args below meth c H locs cells slots Q (F0 m pc Ls (st.map (pm_v base b sa))) := by
  obtain ⟨hx, hb, hml, hown, hts, hnm, hk⟩ := F
  have hms : c.maxLocals = Ls.size := by rw [hml, hR.2.2.2.2.1]
  have hf : 1 ≤ R.frames := Nat.le_trans (by omega) hRm.1
  have hl := hRm.2.1
  rcases h with ⟨x, y, r, rfl, hc, hr, h⟩ | ⟨x, y, r, rfl, hc, hr, h⟩ | ⟨x, r, rfl, hc, hr, h⟩
  · obtain ⟨q0, -, -, hlk⟩ := k_cs_ok _ hc
    have hcl := pm_cells hRm hR (hKb _ _ _ _ h)
    exact va_mmax hx hb hms hown (hts _ hlk) (hts _ kg_smax) (hts _ kg_im) (hts _ kg_cmax) hf (by rw [pm_v_sum]; omega) hcl.1 hcl.2 hdg (hK _ _ _ _ _ _ _ _ _ h hR)
  · obtain ⟨q0, -, -, hlk⟩ := k_cs_ok _ hc
    have hcl := pm_cells hRm hR (hKb _ _ _ _ h)
    exact va_mmin hx hb hms hown (hts _ hlk) (hts _ kg_smin) (hts _ kg_im) (hts _ kg_cmin) hf (by rw [pm_v_sum]; omega) hcl.1 hcl.2 hdg (hK _ _ _ _ _ _ _ _ _ h hR)
  · obtain ⟨q0, -, -, hlk⟩ := k_cs_ok _ hc
    have hcl := pm_cells hRm hR (hKb _ _ _ _ h)
    exact va_mabs hx hb hms hown (hts _ hlk) (hts _ kg_sabs) (hts _ kg_im) (hts _ kg_cabs) hf (by rw [pm_v_sum]; omega) hcl.1 hcl.2 hdg (hK _ _ _ _ _ _ _ _ _ h hR)
theorem sm_acopy {i : Nat} (F : pm_fix q D cy sa p s m args meth c) (hK : pm_KW l D cy base b sa sv p e R s m args below meth c Q z0 q.2.2.2.1 K) (hRm : pm_Rm base nE zE z0 d s R) (hR : pm_Rel D cy base b sa sv s z0 q.2.2.2.1 H locs cells slots Ls ls mem) (hdg : decode q.2.2.1 pc = .ok (.invokestatic i, 3))
    (h : ∃ a sp b dp n r, st = .int n :: .int dp :: .ref b :: .int sp :: .ref a :: r ∧ (q.2.1, i, 8, 0, 0, 5) ∈ k_cs ∧ pm_is mem a 20 ∧ pm_is mem b 20 ∧ g b ∧ ¬ sp < 0 ∧ ¬ dp < 0 ∧ ¬ n < 0 ∧ sp.toNatClampNeg + n.toNatClampNeg ≤ (mem.1.2.2 a).2 ∧ dp.toNatClampNeg + n.toNatClampNeg ≤ (mem.1.2.2 b).2 ∧ (r.map fun v => v.category).sum ≤ 8 ∧
        K (pc + 3) ls r (mem.1, pm_cpy mem.2.1 a sp.toNatClampNeg b dp.toNatClampNeg n.toNatClampNeg, mem.2.2)) : W p l e R s m args below meth c H locs cells slots Q (F0 m pc Ls (st.map (pm_v base b sa))) := by
  obtain ⟨hx, hb, hml, hown, hts, hnm, hk⟩ := F
  obtain ⟨a, sp, k, dp, n, r, rfl, hc, ⟨a1, a2, ta⟩, ⟨h1, h2, ht⟩, hg, n1, n2, n3, n4, n5, hr, h⟩ := h
  have hms : c.maxLocals = Ls.size := by rw [hml, hR.2.2.2.2.1]
  have hf : 1 ≤ R.frames := Nat.le_trans (by omega) hRm.1
  have hl := hRm.2.1
  obtain ⟨q0, -, -, hlk⟩ := k_cs_ok _ hc
  have he := pm_ws_get (base := base) (b := b) (sa := sa) (cy := cy) h1 h2
  rw [pm_e_int ht (by omega) (by omega)] at he
  have he0 := pm_ws_get (base := base) (b := b) (sa := sa) (cy := cy) a1 a2
  rw [pm_e_int ta (by omega) (by omega)] at he0
  have hw : nativeFrameWords "java/lang/System" "arraycopy" 5 ≤ 900 := by decide
  refine va_copyi hx hb hms hown (hts _ hlk) (hts _ kg_native) (hts _ kg_static) (hts _ kg_ini) hk.1 hR.1.2.1 (pm_D_ok hR.1.1) hR.2.1 _ _ 0 0 he0 he rfl rfl rfl n1 n2 n3 n4 n5 (fun _ _ => rfl) hf (by rw [pm_v_sum]; omega) hdg (fun H1 locs1 hP1 _ hS1 => ?_)
  refine pm_row_put (mem' := (mem.1, pm_cpy mem.2.1 a sp.toNatClampNeg k dp.toNatClampNeg n.toNatClampNeg, mem.2.2)) hK hR h1 h2 rfl ?_ (fun a ha => ⟨?_, rfl, rfl⟩) ?_ h H1 locs1 hP1 hS1
  · funext j
    show (if 0 = k ∧ _ ∧ _ then _ else _) = _
    exact if_neg (fun z => (Nat.ne_of_lt h1) z.1)
  · funext j
    show (if a = k ∧ _ ∧ _ then _ else _) = _
    rw [if_neg (fun z => ha z.1)]
  · refine (pm_e_int (mem := (mem.1, pm_cpy mem.2.1 a sp.toNatClampNeg k dp.toNatClampNeg n.toNatClampNeg, mem.2.2)) (t := 20) ht (by omega) (by omega)).trans ?_
    show Sum.inl (_, _, Sum.inl (pm_cpy mem.2.1 a sp.toNatClampNeg k dp.toNatClampNeg n.toNatClampNeg k)) = Sum.inl (_, _, Sum.inl (va_cpy (mem.2.1 a) (mem.2.1 k) _ _ _))
    congr 4
    funext j
    simp [pm_cpy, va_cpy]
theorem pm_e_refput {k a j : Nat} {t : Nat} (ht : (mem.1.2.2 k).1 = t) (h : 23 ≤ t) : pm_e base b sa cy (mem.1, mem.2.1, mem.2.2.1, pm_u mem.2.2.2 k j (some a)) k = .inl (cy (t - 20), (mem.1.2.2 k).2, .inr (.inr (.inr (.inr (va_up (fun i => (mem.2.2.2 k i).map (pm_ad base b sa)) j (some (pm_ad base b sa a))))))) := by
  refine (pm_e_ref (mem := (mem.1, mem.2.1, mem.2.2.1, pm_u mem.2.2.2 k j (some a))) ht h).trans ?_
  congr 7
  funext i
  unfold va_up
  by_cases hi : i = j
  · subst hi
    rw [if_pos rfl]
    show Option.map _ (pm_u mem.2.2.2 k i (some a) k i) = _
    rw [pm_u_self]
    rfl
  · rw [if_neg hi]
    show Option.map _ (pm_u mem.2.2.2 k j (some a) k i) = _
    rw [pm_u_oth hi]
theorem sm_aastore (F : pm_fix q D cy sa p s m args meth c) (hK : pm_KW l D cy base b sa sv p e R s m args below meth c Q z0 q.2.2.2.1 K) (h : pm_ex g C E q K pc ls st mem .aastore) (hR : pm_Rel D cy base b sa sv s z0 q.2.2.2.1 H locs cells slots Ls ls mem) (hdg : decode q.2.2.1 pc = .ok (.aastore, 1)) : W p l e R s m args below meth c H locs cells slots Q (F0 m pc Ls (st.map (pm_v base b sa))) := by
  obtain ⟨hx, hb, hml, hown, hts, hnm, hk⟩ := F
  obtain ⟨a, i, k, r, t, c', rfl, hin, ⟨h1, h2, ht⟩, ⟨a1, a2, ta⟩, htc, hg, h⟩ := h
  have he := pm_ws_get (base := base) (b := b) (sa := sa) (cy := cy) h1 h2
  have hv := pm_ws_get (base := base) (b := b) (sa := sa) (cy := cy) a1 a2
  simp only [List.mem_cons, Prod.mk.injEq, List.not_mem_nil, or_false] at htc
  have hcst := hk.2.2.2.2.2
  rcases htc with ⟨rfl, rfl⟩ | ⟨rfl, rfl⟩ | ⟨rfl, rfl⟩ | ⟨rfl, rfl⟩ | ⟨rfl, rfl⟩ | ⟨rfl, rfl⟩ | ⟨rfl, rfl⟩ | ⟨rfl, rfl⟩ | ⟨rfl, rfl⟩
  all_goals
    rw [pm_e_ref ht (by omega)] at he
    rw [pm_e_obj ta (by omega)] at hv
  · exact va_astq hx hb hk.1 hR.1.2.1 (pm_D_ok hR.1.1) hR.2.1 _ 3 _ 4 he rfl hv rfl hin hdg (fun H1 locs1 hP1 _ hS1 => pm_row_put (mem' := (mem.1, mem.2.1, mem.2.2.1, pm_u mem.2.2.2 k i.toNatClampNeg (some a))) hK hR h1 h2 rfl rfl (fun a ha => ⟨rfl, rfl, pm_u_ne ha⟩) (pm_e_refput ht (by omega)) h H1 locs1 hP1 hS1)
  · exact va_astq hx hb hk.1 hR.1.2.1 (pm_D_ok hR.1.1) hR.2.1 _ 4 _ 2 he rfl hv rfl hin hdg (fun H1 locs1 hP1 _ hS1 => pm_row_put (mem' := (mem.1, mem.2.1, mem.2.2.1, pm_u mem.2.2.2 k i.toNatClampNeg (some a))) hK hR h1 h2 rfl rfl (fun a ha => ⟨rfl, rfl, pm_u_ne ha⟩) (pm_e_refput ht (by omega)) h H1 locs1 hP1 hS1)
  · exact va_astq hx hb hk.1 hR.1.2.1 (pm_D_ok hR.1.1) hR.2.1 _ 5 _ 3 he rfl hv rfl hin hdg (fun H1 locs1 hP1 _ hS1 => pm_row_put (mem' := (mem.1, mem.2.1, mem.2.2.1, pm_u mem.2.2.2 k i.toNatClampNeg (some a))) hK hR h1 h2 rfl rfl (fun a ha => ⟨rfl, rfl, pm_u_ne ha⟩) (pm_e_refput ht (by omega)) h H1 locs1 hP1 hS1)
  · exact va_astq hx hb hk.1 hR.1.2.1 (pm_D_ok hR.1.1) hR.2.1 _ 6 _ 8 he rfl hv rfl hin hdg (fun H1 locs1 hP1 _ hS1 => pm_row_put (mem' := (mem.1, mem.2.1, mem.2.2.1, pm_u mem.2.2.2 k i.toNatClampNeg (some a))) hK hR h1 h2 rfl rfl (fun a ha => ⟨rfl, rfl, pm_u_ne ha⟩) (pm_e_refput ht (by omega)) h H1 locs1 hP1 hS1)
  · exact va_astqO hx hb hk.1 hR.1.2.1 (pm_D_ok hR.1.1) hR.2.1 _ 6 _ 6 he rfl (hcst _ (List.mem_of_getElem? (i := 0) rfl)) hv rfl hin hdg (fun H1 locs1 hP1 _ hS1 => pm_row_put (mem' := (mem.1, mem.2.1, mem.2.2.1, pm_u mem.2.2.2 k i.toNatClampNeg (some a))) hK hR h1 h2 rfl rfl (fun a ha => ⟨rfl, rfl, pm_u_ne ha⟩) (pm_e_refput ht (by omega)) h H1 locs1 hP1 hS1)
  · exact va_astqO hx hb hk.1 hR.1.2.1 (pm_D_ok hR.1.1) hR.2.1 _ 6 _ 0 he rfl (hcst _ (List.mem_of_getElem? (i := 1) rfl)) hv rfl hin hdg (fun H1 locs1 hP1 _ hS1 => pm_row_put (mem' := (mem.1, mem.2.1, mem.2.2.1, pm_u mem.2.2.2 k i.toNatClampNeg (some a))) hK hR h1 h2 rfl rfl (fun a ha => ⟨rfl, rfl, pm_u_ne ha⟩) (pm_e_refput ht (by omega)) h H1 locs1 hP1 hS1)
  · exact va_astqO hx hb hk.1 hR.1.2.1 (pm_D_ok hR.1.1) hR.2.1 _ 6 _ 1 he rfl (hcst _ (List.mem_of_getElem? (i := 2) rfl)) hv rfl hin hdg (fun H1 locs1 hP1 _ hS1 => pm_row_put (mem' := (mem.1, mem.2.1, mem.2.2.1, pm_u mem.2.2.2 k i.toNatClampNeg (some a))) hK hR h1 h2 rfl rfl (fun a ha => ⟨rfl, rfl, pm_u_ne ha⟩) (pm_e_refput ht (by omega)) h H1 locs1 hP1 hS1)
  · exact va_astqO hx hb hk.1 hR.1.2.1 (pm_D_ok hR.1.1) hR.2.1 _ 6 _ 5 he rfl (hcst _ (List.mem_of_getElem? (i := 3) rfl)) hv rfl hin hdg (fun H1 locs1 hP1 _ hS1 => pm_row_put (mem' := (mem.1, mem.2.1, mem.2.2.1, pm_u mem.2.2.2 k i.toNatClampNeg (some a))) hK hR h1 h2 rfl rfl (fun a ha => ⟨rfl, rfl, pm_u_ne ha⟩) (pm_e_refput ht (by omega)) h H1 locs1 hP1 hS1)
  · exact va_astqO hx hb hk.1 hR.1.2.1 (pm_D_ok hR.1.1) hR.2.1 _ 6 _ 10 he rfl (hcst _ (List.mem_of_getElem? (i := 4) rfl)) hv rfl hin hdg (fun H1 locs1 hP1 _ hS1 => pm_row_put (mem' := (mem.1, mem.2.1, mem.2.2.1, pm_u mem.2.2.2 k i.toNatClampNeg (some a))) hK hR h1 h2 rfl rfl (fun a ha => ⟨rfl, rfl, pm_u_ne ha⟩) (pm_e_refput ht (by omega)) h H1 locs1 hP1 hS1)
end SIM3
end
section
/-! ===== what a run of the small machine keeps ===== -/
theorem pm_z_ne {α : Type} {f : Nat → Nat → α} {lo hi a : Nat} {v : α} (h : ¬ (lo ≤ a ∧ a < hi)) : pm_z f lo hi v a = f a := by
  funext i
  unfold pm_z
  rw [if_neg h]
theorem pm_z_in {α : Type} {f : Nat → Nat → α} {lo hi a i : Nat} {v : α} (h : lo ≤ a ∧ a < hi) : pm_z f lo hi v a i = v := by
  unfold pm_z
  rw [if_pos h]
theorem pm_zr_ne {f : Nat → Nat → Option Nat} {lo hi o m a : Nat} (h : ¬ (lo ≤ a ∧ a < hi)) (h2 : a ≠ o) : pm_zr f lo hi o m a = f a := by
  funext i
  unfold pm_zr
  rw [if_neg (fun z => h2 z.1), if_neg h]
def pm_P (g : Nat → Prop) (mem mem' : pm_M) : Prop := mem.1.1 ≤ mem'.1.1 ∧ mem.1.2.1 ≤ mem'.1.2.1 ∧ (∀ k, k ≤ mem.1.1 → mem'.1.2.2 k = mem.1.2.2 k) ∧ mem'.2.1 0 = mem.2.1 0 ∧ ∀ k, k ≤ mem.1.1 → ¬ g k → mem'.2.1 k = mem.2.1 k ∧ mem'.2.2.1 k = mem.2.2.1 k ∧ mem'.2.2.2 k = mem.2.2.2 k
theorem pm_P.rf {g : Nat → Prop} {mem : pm_M} : pm_P g mem mem := ⟨Nat.le_refl _, Nat.le_refl _, fun _ _ => rfl, rfl, fun _ _ _ => ⟨rfl, rfl, rfl⟩⟩
theorem pm_P.trans {g : Nat → Prop} {m1 m2 m3 : pm_M} (h : pm_P g m1 m2) (k : pm_P g m2 m3) : pm_P g m1 m3 := by
  obtain ⟨a1, a2, a3, a4, a5⟩ := h
  obtain ⟨b1, b2, b3, b4, b5⟩ := k
  refine ⟨Nat.le_trans a1 b1, Nat.le_trans a2 b2, fun k hk => (b3 k (Nat.le_trans hk a1)).trans (a3 k hk), b4.trans a4, fun k hk hg => ?_⟩
  obtain ⟨x1, x2, x3⟩ := a5 k hk hg
  obtain ⟨y1, y2, y3⟩ := b5 k (Nat.le_trans hk a1) hg
  exact ⟨y1.trans x1, y2.trans x2, y3.trans x3⟩
section PRES
variable {g : Nat → Prop} {C : Nat → List Value → pm_M → Option Value → pm_M → Prop} {E : Option Value → pm_M → Prop} {q : pm_D} {K : Nat → pm_L → List Value → pm_M → Prop} {pc : Nat} {ls : pm_L} {st : List Value} {mem : pm_M}
theorem pm_P.row {k : Nat} {mi : Nat → Nat → Int32} {ml : Nat → Nat → Int64} {mr : Nat → Nat → Option Nat} (hk : 1 ≤ k) (hg : g k) (h1 : ∀ a, a ≠ k → mi a = mem.2.1 a) (h2 : ∀ a, a ≠ k → ml a = mem.2.2.1 a) (h3 : ∀ a, a ≠ k → mr a = mem.2.2.2 a) : pm_P g mem (mem.1, mi, ml, mr) :=
  ⟨Nat.le_refl _, Nat.le_refl _, fun _ _ => rfl, h1 0 (by omega), fun a _ ha => by
    have hne : a ≠ k := fun z => ha (z ▸ hg)
    exact ⟨h1 a hne, h2 a hne, h3 a hne⟩⟩
theorem pm_P.new {t len : Nat} : pm_P g mem (pm_new mem t len) := by
  refine ⟨Nat.le_succ _, Nat.le_add_right _ _, fun k hk => ?_, ?_, fun k hk _ => ⟨?_, ?_, ?_⟩⟩
  · show (if k = mem.1.1 + 1 then (t, len) else mem.1.2.2 k) = _
    rw [if_neg (by omega)]
  · exact pm_z_ne (f := mem.2.1) (lo := mem.1.1 + 1) (hi := mem.1.1 + 2) (a := 0) (v := 0) (by omega)
  · exact pm_z_ne (by omega)
  · exact pm_z_ne (by omega)
  · exact pm_z_ne (by omega)
theorem pm_P.new2 {x y : Nat} : pm_P g mem (pm_new2 mem x y) := by
  refine ⟨Nat.le_add_right _ _, Nat.le_add_right _ _, fun k hk => ?_, ?_, fun k hk _ => ⟨?_, ?_, ?_⟩⟩
  · show (if k = mem.1.1 + 1 then (27, x) else if mem.1.1 + 1 < k ∧ k ≤ mem.1.1 + (1 + x) then (20, y) else mem.1.2.2 k) = _
    rw [if_neg (by omega), if_neg (by omega)]
  · exact pm_z_ne (f := mem.2.1) (lo := mem.1.1 + 1) (hi := mem.1.1 + (2 + x)) (a := 0) (v := 0) (by omega)
  · exact pm_z_ne (by omega)
  · exact pm_z_ne (by omega)
  · exact pm_zr_ne (by omega) (by omega)
theorem pm_next_call {i : Nat} {kinds : List Nat} {stat : Bool} (hC : ∀ M args mem v mem', C M args mem v mem' → pm_P g mem mem') (h : pm_call C q K i kinds stat pc ls st mem) : ∃ pc' ls' st' mem1, K pc' ls' st' mem1 ∧ pm_P g mem mem1 := by
  obtain ⟨kd, tg, M, na, As, r, v, mem', -, -, -, -, hh, hk⟩ := h
  rcases hh with ⟨-, -, hh⟩ | ⟨-, b, -, -, hh⟩
  · exact ⟨_, _, _, _, hk, hC _ _ _ _ _ hh⟩
  · exact ⟨_, _, _, _, hk, hC _ _ _ _ _ hh⟩
set_option maxHeartbeats 2000000 in
theorem pm_next {ins : Instr} (hC : ∀ M args mem v mem', C M args mem v mem' → pm_P g mem mem') (h : pm_ex g C E q K pc ls st mem ins) : (∃ r, E r mem) ∨ ∃ pc' ls' st' mem1, K pc' ls' st' mem1 ∧ pm_P g mem mem1 := by
  cases ins with
  | ireturn =>
    obtain ⟨v, ty, -, -, -, h⟩ := h
    exact Or.inl ⟨_, h⟩
  | lreturn =>
    obtain ⟨v, -, -, h⟩ := h
    exact Or.inl ⟨_, h⟩
  | return_ => exact Or.inl ⟨_, h.2.2⟩
  | invokestatic i =>
    rcases h with h | ⟨a, sp, b, dp, n, r, -, -, -, hb, hg, -, -, -, -, -, -, h⟩ | ⟨x, y, r, -, -, -, h⟩ | ⟨x, y, r, -, -, -, h⟩ | ⟨x, r, -, -, -, h⟩
    · exact Or.inr (pm_next_call hC h)
    · refine Or.inr ⟨_, _, _, _, h, pm_P.row hb.1 hg (fun a' ha => ?_) (fun _ _ => rfl) (fun _ _ => rfl)⟩
      funext i
      exact if_neg (fun z => ha z.1)
    all_goals exact Or.inr ⟨_, _, _, _, h, pm_P.rf⟩
  | invokevirtual i => exact Or.inr (pm_next_call hC h)
  | invokespecial i =>
    rcases h with h | ⟨b, r, -, -, -, h⟩
    · exact Or.inr (pm_next_call hC h)
    · exact Or.inr ⟨_, _, _, _, h, pm_P.rf⟩
  | putfield i =>
    obtain ⟨v, k, r, t, j, -, -, hi, hg, -, h⟩ := h
    rcases h with ⟨x, -, -, h⟩ | ⟨x, -, -, h⟩ | ⟨x, -, -, h⟩
    · exact Or.inr ⟨_, _, _, _, h, pm_P.row hi.1 hg (fun a ha => pm_u_ne ha) (fun _ _ => rfl) (fun _ _ => rfl)⟩
    · exact Or.inr ⟨_, _, _, _, h, pm_P.row hi.1 hg (fun _ _ => rfl) (fun a ha => pm_u_ne ha) (fun _ _ => rfl)⟩
    · exact Or.inr ⟨_, _, _, _, h, pm_P.row hi.1 hg (fun _ _ => rfl) (fun _ _ => rfl) (fun a ha => pm_u_ne ha)⟩
  | iastore =>
    obtain ⟨x, i, k, r, -, -, hi, hg, h⟩ := h
    exact Or.inr ⟨_, _, _, _, h, pm_P.row hi.1 hg (fun a ha => pm_u_ne ha) (fun _ _ => rfl) (fun _ _ => rfl)⟩
  | bastore =>
    obtain ⟨x, i, k, r, -, -, hg, ⟨hi, h⟩ | ⟨hi, h⟩⟩ := h
    · exact Or.inr ⟨_, _, _, _, h, pm_P.row hi.1 hg (fun a ha => pm_u_ne ha) (fun _ _ => rfl) (fun _ _ => rfl)⟩
    · exact Or.inr ⟨_, _, _, _, h, pm_P.row hi.1 hg (fun a ha => pm_u_ne ha) (fun _ _ => rfl) (fun _ _ => rfl)⟩
  | aastore =>
    obtain ⟨a, i, k, r, t, c, -, -, hi, -, -, hg, h⟩ := h
    exact Or.inr ⟨_, _, _, _, h, pm_P.row hi.1 hg (fun _ _ => rfl) (fun _ _ => rfl) (fun a ha => pm_u_ne ha)⟩
  | new i =>
    obtain ⟨c, -, -, -, h⟩ := h
    exact Or.inr ⟨_, _, _, _, h, pm_P.new⟩
  | newarray i =>
    obtain ⟨x, r, tg, -, -, -, -, -, h⟩ := h
    exact Or.inr ⟨_, _, _, _, h, pm_P.new⟩
  | anewarray i =>
    obtain ⟨x, r, tg, -, -, -, -, -, -, -, h⟩ := h
    exact Or.inr ⟨_, _, _, _, h, pm_P.new⟩
  | multianewarray i dd =>
    obtain ⟨x, y, r, -, -, -, -, -, -, -, -, h⟩ := h
    exact Or.inr ⟨_, _, _, _, h, pm_P.new2⟩
  | ldc i =>
    rcases h with ⟨v, -, h⟩ | ⟨k, -, h⟩
    · exact Or.inr ⟨_, _, _, _, h, pm_P.rf⟩
    · exact Or.inr ⟨_, _, _, _, h, pm_P.rf⟩
  | ifCond cnd off =>
    obtain ⟨x, r, tg, -, -, h1, h2⟩ := h
    by_cases hc : pm_cmp cnd x 0
    · exact Or.inr ⟨_, _, _, _, h1 hc, pm_P.rf⟩
    · exact Or.inr ⟨_, _, _, _, h2 hc, pm_P.rf⟩
  | if_icmp cnd off =>
    obtain ⟨x, y, r, tg, -, -, h1, h2⟩ := h
    by_cases hc : pm_cmp cnd x y
    · exact Or.inr ⟨_, _, _, _, h1 hc, pm_P.rf⟩
    · exact Or.inr ⟨_, _, _, _, h2 hc, pm_P.rf⟩
  | tableswitch dflt lo hi offs =>
    obtain ⟨x, r, -, ⟨tg, -, -, h⟩ | ⟨off, tg, -, -, -, -, h⟩⟩ := h
    · exact Or.inr ⟨_, _, _, _, h, pm_P.rf⟩
    · exact Or.inr ⟨_, _, _, _, h, pm_P.rf⟩
  | _ => first
    | exact absurd h id
    | exact Or.inr ⟨_, _, _, _, h, pm_P.rf⟩
    | (obtain ⟨_, _, h⟩ := h; exact Or.inr ⟨_, _, _, _, h, pm_P.rf⟩)
    | (obtain ⟨_, _, _, h⟩ := h; exact Or.inr ⟨_, _, _, _, h, pm_P.rf⟩)
    | (obtain ⟨_, _, _, _, h⟩ := h; exact Or.inr ⟨_, _, _, _, h, pm_P.rf⟩)
    | (obtain ⟨_, _, _, _, _, h⟩ := h; exact Or.inr ⟨_, _, _, _, h, pm_P.rf⟩)
    | (obtain ⟨_, _, _, _, _, _, h⟩ := h; exact Or.inr ⟨_, _, _, _, h, pm_P.rf⟩)
    | (obtain ⟨_, _, _, _, _, _, _, h⟩ := h; exact Or.inr ⟨_, _, _, _, h, pm_P.rf⟩)
    | (obtain ⟨_, _, _, _, _, _, _, _, h⟩ := h; exact Or.inr ⟨_, _, _, _, h, pm_P.rf⟩)
    | (obtain ⟨_, _, _, _, _, _, _, _, _, h⟩ := h; exact Or.inr ⟨_, _, _, _, h, pm_P.rf⟩)
theorem pm_run_pres (hC : ∀ M args mem v mem', C M args mem v mem' → pm_P g mem mem') {memE : pm_M} (hE : ∀ r m1, E r m1 → m1 = memE) : ∀ (f pc : Nat) (ls : pm_L) (st : List Value) (mem : pm_M), pm_run g C E q f pc ls st mem → pm_P g mem memE := by
  intro f
  induction f with
  | zero => intro pc ls st mem h; exact h.elim
  | succ f ih =>
    intro pc ls st mem h
    obtain ⟨ins, len, -, -, h⟩ := h
    rcases pm_next hC h with ⟨r, h⟩ | ⟨pc', ls', st', mem1, h, hP⟩
    · rw [hE _ _ h]
      exact pm_P.rf
    · exact hP.trans (ih _ _ _ _ h)
end PRES
theorem pm_ev_pres {g : Nat → Prop} : ∀ (d M : Nat) (args : List Value) (mem : pm_M) (v : Option Value) (mem' : pm_M), pm_ev g d M args mem v mem' → pm_P g mem mem' := by
  intro d
  induction d with
  | zero => intro M args mem v mem' h; exact h.elim
  | succ d ih =>
    intro M args mem v mem' h
    rcases h with ⟨-, h⟩ | ⟨q, -, -, f, h⟩
    · obtain ⟨-, t, bb, k, -, -, -, -, -, -, rfl, -⟩ := h
      exact pm_P.rf
    · exact pm_run_pres ih (fun r m1 h => h.2) f _ _ _ _ h
end
section
/-! ===== new cells ===== -/
theorem k_acI : Jvm.Cond.arrayClass .int ∈ pm_tbl := pm_mem 77 (by decide +kernel) rfl
theorem k_acB : Jvm.Cond.arrayClass .byte ∈ pm_tbl := pm_mem 61 (by decide +kernel) rfl
theorem k_acZ : Jvm.Cond.arrayClass .boolean ∈ pm_tbl := pm_mem 60 (by decide +kernel) rfl
theorem k_ini_of : ∀ c, c < 13 → Jvm.Cond.initialized (k_cn c) ∈ pm_tbl := by
  intro c h
  match c, h with
  | 0, _ => exact k_ini0
  | 1, _ => exact k_ini1
  | 2, _ => exact k_ini2
  | 3, _ => exact k_ini3
  | 4, _ => exact k_ini4
  | 5, _ => exact k_ini5
  | 6, _ => exact k_ini6
  | 7, _ => exact k_ini7
  | 8, _ => exact k_ini8
  | 9, _ => exact k_ini9
  | 10, _ => exact k_ini10
  | 11, _ => exact k_ini11
  | 12, _ => exact k_ini12
  | c + 13, h => omega
section SIM4
variable {l : Launch} {D : va_G} {cy : Nat → ClassId} {base b : Nat} {sa sv : Nat → Nat} {p : Program} {e : Env} {R : Room} {s : State} {m : MethodId} {args : Array Value} {below : List Frame} {meth : Method} {c : Code} {Q : State → Prop} {z0 nE zE d : Nat}
variable {g : Nat → Prop} {C : Nat → List Value → pm_M → Option Value → pm_M → Prop} {E : Option Value → pm_M → Prop} {q : pm_D} {K : Nat → pm_L → List Value → pm_M → Prop}
variable {pc : Nat} {ls : pm_L} {st : List Value} {mem mem' : pm_M} {H H1 : Heap} {locs locs1 : List Loc} {cells slots : Nat} {Ls : Array Slot}
theorem pm_ws_more {n : Nat} (hn : mem'.1.1 = mem.1.1 + n) (ho : ∀ j, 1 ≤ j → j ≤ mem.1.1 → pm_e base b sa cy mem' j = pm_e base b sa cy mem j) : pm_ws base b sa cy mem' = pm_ws base b sa cy mem ++ (List.range n).map (fun i => (pm_ad base b sa (mem.1.1 + i + 1), pm_e base b sa cy mem' (mem.1.1 + i + 1))) := by
  unfold pm_ws
  rw [hn, List.range_add, List.map_append, List.map_map]
  congr 1
  apply List.map_congr_left
  intro k hk
  rw [ho (k + 1) (by omega) (by have := List.mem_range.mp hk; omega)]
theorem pm_new_old {t len j : Nat} (h2 : j ≤ mem.1.1) : pm_e base b sa cy (pm_new mem t len) j = pm_e base b sa cy mem j := by
  have hP : pm_P (fun _ => False) mem (pm_new mem t len) := pm_P.new
  have h3 := hP.2.2.2.2 j h2 id
  exact pm_e_congr (hP.2.2.1 j h2) h3.1 h3.2.1 h3.2.2
theorem pm_new_tag {t len : Nat} : (pm_new mem t len).1.2.2 (mem.1.1 + 1) = (t, len) := if_pos rfl
theorem pm_new_i {t len i : Nat} : (pm_new mem t len).2.1 (mem.1.1 + 1) i = 0 := pm_z_in ⟨Nat.le_refl _, by omega⟩
theorem pm_new_l {t len i : Nat} : (pm_new mem t len).2.2.1 (mem.1.1 + 1) i = 0 := pm_z_in ⟨Nat.le_refl _, by omega⟩
theorem pm_new_r {t len i : Nat} : (pm_new mem t len).2.2.2 (mem.1.1 + 1) i = none := pm_z_in ⟨Nat.le_refl _, by omega⟩
theorem pm_new_0 {t len : Nat} : (pm_new mem t len).1.2.2 0 = mem.1.2.2 0 ∧ (pm_new mem t len).2.1 0 = mem.2.1 0 := by
  have hP : pm_P (fun _ => False) mem (pm_new mem t len) := pm_P.new
  exact ⟨hP.2.2.1 0 (Nat.zero_le _), hP.2.2.2.1⟩
/-- behind a new cell -/
theorem pm_new_go {t len : Nat} {r : List Value} {pc' : Nat} (hK : pm_KW l D cy base b sa sv p e R s m args below meth c Q z0 q.2.2.2.1 K) (hR : pm_Rel D cy base b sa sv s z0 q.2.2.2.1 H locs cells slots Ls ls mem) (hz : H.size = base + mem.1.1) (hn : mem.1.1 + 2 < 1000000) (h : K pc' ls (.ref (mem.1.1 + 1) :: r) (pm_new mem t len))
    (he : va_at D k_cl (H.size, pm_e base b sa cy (pm_new mem t len) (mem.1.1 + 1)) H1) (hz1 : H1.size = H.size + 1) (ho : ∀ x, x < H.size → H1[x]? = H[x]?) : W p l e R s m args below meth c H1 locs (cells + 1) (slots + len) Q (F0 m pc' Ls (.ref H.size :: r.map (pm_v base b sa))) := by
  have had : pm_ad base b sa (mem.1.1 + 1) = H.size := by rw [pm_ad_in (by omega) (by omega), hz]; rfl
  have hP1 : va_P D k_cl (pm_ws base b sa cy (pm_new mem t len)) H1 := by
    rw [pm_ws_more (mem := mem) (n := 1) rfl (fun j _ hj => pm_new_old hj)]
    refine (hR.1.2.1.kept (fun k x hx => ho x.1 (hR.1.2.1 k x hx).lt)).app (fun k x hx => ?_)
    have hk0 : k < 1 := (List.getElem?_eq_some_iff.mp hx).1
    rw [show k = 0 by omega] at hx
    cases hx
    show va_at D k_cl (pm_ad base b sa (mem.1.1 + 0 + 1), pm_e base b sa cy (pm_new mem t len) (mem.1.1 + 0 + 1)) H1
    rw [Nat.add_zero, had]
    exact he
  have hS1 : va_S (pm_A base) s.heap H1 locs := ⟨Nat.le_trans hR.2.1.1 (by omega), fun x h1 h2 => (ho x (Nat.lt_of_lt_of_le h1 hR.2.1.1)).trans (hR.2.1.2.1 x h1 h2), hR.2.1.2.2⟩
  have h3 := hK _ _ _ _ H1 locs (cells + 1) (slots + len) Ls h ⟨hR.1.put hR.2.1 hS1 hR.2.2.1.1 hP1 (show mem.1.1 + 1 < 999999 by omega) pm_new_0.1 pm_new_0.2, hS1, ⟨hR.2.2.1.1, ?_⟩, ?_, hR.2.2.2.2⟩
  · simp only [List.map_cons, pm_v_ref, had] at h3
    exact h3
  · have := hR.2.2.1.2
    show base + (mem.1.1 + 1) = _
    omega
  · have := hR.2.2.2.1
    show z0 + (slots + len) = mem.1.2.1 + len
    omega
theorem pm_def (t j : Nat) (ht : t < 13) (hj : j < k_nf t) (mem1 : pm_M) (k : Nat) (h1 : mem1.2.1 k j = 0) (h2 : mem1.2.2.1 k j = 0) (h3 : mem1.2.2.2 k j = none) : defaultValue (k_ty t j) = pm_v base b sa (pm_fv mem1 k (k_fc t j) j) := by
  have key := k_fc2 t ht j hj
  unfold pm_fv
  split
  · rename_i hc
    have hty : k_ty t j = .int := by
      unfold k_fc at hc
      split at hc <;> first | assumption | cases hc
    rw [hty, h1]
    rfl
  · rename_i hc
    have hty : k_ty t j = .long := by
      unfold k_fc at hc
      split at hc <;> first | assumption | cases hc
    rw [hty, h2]
    rfl
  · rename_i hc0 hc1
    have hc : k_fc t j = 2 := by
      unfold k_fc at hc0 hc1 ⊢
      split <;> first | rfl | (exfalso; simp_all)
    have := key hc
    rw [h3]
    unfold k_isr at this
    split at this
    · rename_i h9; rw [h9]; rfl
    · rename_i h9; rw [h9]; rfl
    · cases this
theorem pm_more (hRm : pm_Rm base nE zE z0 d s R) (hR : pm_Rel D cy base b sa sv s z0 q.2.2.2.1 H locs cells slots Ls ls mem) (hb : mem'.1.1 ≤ nE ∧ mem'.1.2.1 ≤ zE) (h1 : mem.1.1 ≤ mem'.1.1) (h2 : mem.1.2.1 ≤ mem'.1.2.1) : cells + (mem'.1.1 - mem.1.1) ≤ R.cells ∧ slots + (mem'.1.2.1 - mem.1.2.1) ≤ R.slots := by
  have h3 := hR.2.2.1.2
  have h4 := hR.2.2.2.1
  obtain ⟨-, -, h5, h6⟩ := hRm
  omega
theorem sm_new {i : Nat} (F : pm_fix q D cy sa p s m args meth c) (hK : pm_KW l D cy base b sa sv p e R s m args below meth c Q z0 q.2.2.2.1 K) (hKb : ∀ pc ls st mem, K pc ls st mem → mem.1.1 ≤ nE ∧ mem.1.2.1 ≤ zE) (hRm : pm_Rm base nE zE z0 d s R) (h : pm_ex g C E q K pc ls st mem (.new i)) (hR : pm_Rel D cy base b sa sv s z0 q.2.2.2.1 H locs cells slots Ls ls mem) (hdg : decode q.2.2.1 pc = .ok (.new i, 3)) : W p l e R s m args below meth c H locs cells slots Q (F0 m pc Ls (st.map (pm_v base b sa))) := by
  obtain ⟨hx, hb, hml, hown, hts, hnm, hk⟩ := F
  obtain ⟨t, hw, ht, hn, h⟩ := h
  obtain ⟨r, hcl⟩ : ∃ r, k_cl[t]? = some r := ⟨_, List.getElem?_eq_getElem (by simpa [k_cl] using ht)⟩
  obtain ⟨o1, o2, o3, o4, o5, o6, o7, o8, o9⟩ := k_cl_ok _ _ hcl
  have hlk := k_nw_ok _ hw
  have hkan : k_an t = r.1 := by
    rw [o6]
    match t, ht with
    | 0, _ => rfl
    | 1, _ => rfl
    | 2, _ => rfl
    | 3, _ => rfl
    | 4, _ => rfl
    | 5, _ => rfl
    | 6, _ => rfl
    | 7, _ => rfl
    | 8, _ => rfl
    | 9, _ => rfl
    | 10, _ => rfl
    | 11, _ => rfl
    | 12, _ => rfl
    | t + 13, h => omega
  dsimp only at hlk
  rw [hkan] at hlk
  have hKn := hk.1.1 t r hcl
  have hini : Jvm.Cond.initialized r.1 ∈ pm_tbl := by rw [o6]; exact k_ini_of t ht
  have hbd := pm_more hRm hR (hKb _ _ _ _ h) (Nat.le_succ _) (Nat.le_add_right _ _)
  have e1 : (pm_new mem t (k_nf t)).1.1 - mem.1.1 = 1 := by show mem.1.1 + 1 - mem.1.1 = 1; omega
  have e2 : (pm_new mem t (k_nf t)).1.2.1 - mem.1.2.1 = k_nf t := by show mem.1.2.1 + k_nf t - mem.1.2.1 = _; omega
  rw [e1, e2] at hbd
  refine W.sized (fun hsz => ?_)
  have hz := hR.size hsz
  refine W.newcK (g := F0 m pc Ls (st.map (pm_v base b sa))) (n := k_nf t) hx hb hown (hts _ hlk) (hts _ (by rw [← o4]; exact o9)) (hts _ hini) rfl hdg hbd.1 hbd.2 hKn.2.1 rfl fun H1 kC hkC e1 z1 o1' => ?_
  refine pm_new_go hK hR hz hn h ?_ z1 o1'
  rw [pm_e_obj (mem := pm_new mem t (k_nf t)) (t := t) (by rw [pm_new_tag]) (by omega)]
  refine ⟨r, hcl, (u_born (k_ty t) hts o1 hKn hkC e1 o2).to (fun j hj => ?_)⟩
  have hj2 : j < k_nf t := by rw [← o4]; exact hj
  show _ = vp_V (pm_fs base b sa (pm_new mem t (k_nf t)) (mem.1.1 + 1) t) j
  unfold vp_V
  rw [List.getD_eq_getElem?_getD, pm_fs_get hj2]
  exact pm_def t j ht hj2 _ _ pm_new_i pm_new_l pm_new_r
theorem pm_atag_ok {t : ArrayType} {tg : Nat} (h : pm_atag t = some tg) : 20 ≤ tg ∧ tg < 23 ∧ Jvm.Cond.arrayClass (newarray.typeOf t) ∈ pm_tbl ∧ (pm_T cy)[tg - 20]? = some (cy (tg - 20), newarray.typeOf t) ∧ defaultValue (newarray.typeOf t) = .int 0 ∧ componentBytes (newarray.typeOf t) ≤ 4 ∧ ∀ (U : State) (cA : ClassId), va_RA U cA (newarray.typeOf t) → U.vm.findClass ("[" ++ (newarray.typeOf t).toString) = some cA := by
  cases t <;> first | (cases h; done) | skip
  · cases h
    exact ⟨by decide, by decide, k_acZ, rfl, rfl, by decide, fun U cA h => h⟩
  · cases h
    exact ⟨by decide, by decide, k_acB, rfl, rfl, by decide, fun U cA h => h⟩
  · cases h
    exact ⟨by decide, by decide, k_acI, rfl, rfl, by decide, fun U cA h => h⟩
theorem sm_newarray {t : ArrayType} (F : pm_fix q D cy sa p s m args meth c) (hK : pm_KW l D cy base b sa sv p e R s m args below meth c Q z0 q.2.2.2.1 K) (hKb : ∀ pc ls st mem, K pc ls st mem → mem.1.1 ≤ nE ∧ mem.1.2.1 ≤ zE) (hRm : pm_Rm base nE zE z0 d s R) (h : pm_ex g C E q K pc ls st mem (.newarray t)) (hR : pm_Rel D cy base b sa sv s z0 q.2.2.2.1 H locs cells slots Ls ls mem) (hdg : decode q.2.2.1 pc = .ok (.newarray t, 2)) : W p l e R s m args below meth c H locs cells slots Q (F0 m pc Ls (st.map (pm_v base b sa))) := by
  obtain ⟨hx, hb, hml, hown, hts, hnm, hk⟩ := F
  obtain ⟨x, r, tg, rfl, hx0, hxm, ht, hn, h⟩ := h
  obtain ⟨t1, t2, t3, t4, t5, t6, t7⟩ := pm_atag_ok (cy := cy) ht
  have hbd := pm_more hRm hR (hKb _ _ _ _ h) (Nat.le_succ _) (Nat.le_add_right _ _)
  have e1 : (pm_new mem tg x.toNatClampNeg).1.1 - mem.1.1 = 1 := by show mem.1.1 + 1 - mem.1.1 = 1; omega
  have e2 : (pm_new mem tg x.toNatClampNeg).1.2.1 - mem.1.2.1 = x.toNatClampNeg := by show mem.1.2.1 + x.toNatClampNeg - mem.1.2.1 = _; omega
  rw [e1, e2] at hbd
  refine W.sized (fun hsz => ?_)
  have hz := hR.size hsz
  refine va_newaK (g := F0 m pc Ls _) hx hb (hts _ t3) rfl hdg rfl hx0 rfl (Nat.le_trans (Nat.mul_le_mul hxm t6) (by decide)) hbd.1 hbd.2 rfl fun H1 cA e1 z1 o1 hAr hNm => ?_
  have hcA : cA = cy (tg - 20) := Option.some.inj (hNm.symm.trans (t7 _ _ (hk.1.2 _ _ t4).2))
  refine pm_new_go hK hR hz hn h ?_ z1 o1
  rw [pm_e_int (mem := pm_new mem tg x.toNatClampNeg) (t := tg) (by rw [pm_new_tag]) t1 t2]
  show H1[H.size]? = some (vp_cell (cy (tg - 20)) (_, Sum.inl _))
  rw [vp_cell_i, e1, hcA, pm_new_tag, t5]
  congr 2
  funext j
  rw [pm_new_i]
theorem sm_anewarray {i : Nat} (F : pm_fix q D cy sa p s m args meth c) (hK : pm_KW l D cy base b sa sv p e R s m args below meth c Q z0 q.2.2.2.1 K) (hKb : ∀ pc ls st mem, K pc ls st mem → mem.1.1 ≤ nE ∧ mem.1.2.1 ≤ zE) (hRm : pm_Rm base nE zE z0 d s R) (h : pm_ex g C E q K pc ls st mem (.anewarray i)) (hR : pm_Rel D cy base b sa sv s z0 q.2.2.2.1 H locs cells slots Ls ls mem) (hdg : decode q.2.2.1 pc = .ok (.anewarray i, 3)) : W p l e R s m args below meth c H locs cells slots Q (F0 m pc Ls (st.map (pm_v base b sa))) := by
  obtain ⟨hx, hb, hml, hown, hts, hnm, hk⟩ := F
  obtain ⟨x, r, tg, rfl, hx0, hxm, hw, t1, t2, hn, h⟩ := h
  obtain ⟨ty, y1, y2, y3⟩ := pm_T_ref (cy := cy) t1 (show tg ≤ 27 by omega)
  have y3 := y3 t2
  subst y3
  have hlk := k_nw_ok _ hw
  have hbd := pm_more hRm hR (hKb _ _ _ _ h) (Nat.le_succ _) (Nat.le_add_right _ _)
  have e1 : (pm_new mem tg x.toNatClampNeg).1.1 - mem.1.1 = 1 := by show mem.1.1 + 1 - mem.1.1 = 1; omega
  have e2 : (pm_new mem tg x.toNatClampNeg).1.2.1 - mem.1.2.1 = x.toNatClampNeg := by show mem.1.2.1 + x.toNatClampNeg - mem.1.2.1 = _; omega
  rw [e1, e2] at hbd
  refine W.sized (fun hsz => ?_)
  have hz := hR.size hsz
  refine W.anew (g := F0 m pc Ls _) hx hb hown (hts _ hlk) (va_AO.use (hk.2.2.2.1 tg t1 t2)) rfl hdg rfl hx0 (Nat.le_trans (Nat.mul_le_mul_right 4 hxm) (by decide)) hbd.1 hbd.2 fun cA kA comp f1 f2 f3 f4 => ?_
  generalize hH1 : H.push ({ cls := cA, slots := Array.replicate x.toNatClampNeg .null, vm := .none } : Cell) = H1
  have z1 : H1.size = H.size + 1 := by rw [← hH1, Array.size_push]
  have e1 : H1[H.size]? = some (arrV cA x.toNatClampNeg (fun _ => .null)) := by rw [← hH1, Array.getElem?_push_size, ← arrV_new]
  have o1 : ∀ q : Nat, q < H.size → H1[q]? = H[q]? := fun q hq => by rw [← hH1, Array.getElem?_push, if_neg (Nat.ne_of_lt hq)]
  obtain ⟨kA2, comp2, g1, g2, g3, g4⟩ := (hk.1.2 _ _ y1).2
  have hcA : cA = cy (tg - 20) := Option.some.inj (f1.symm.trans g4)
  refine pm_new_go hK hR hz hn h ?_ z1 o1
  rw [pm_e_ref (mem := pm_new mem tg x.toNatClampNeg) (t := tg) (by rw [pm_new_tag]) t1]
  show H1[H.size]? = some (vp_cell (cy (tg - 20)) (_, Sum.inr (Sum.inr (Sum.inr (Sum.inr _)))))
  rw [vp_cell_q, e1, hcA, pm_new_tag]
  congr 2
  funext j
  rw [pm_new_r]
  rfl
end SIM4
end
section
/-! ===== new int[m][n] ===== -/
theorem pm_outer (c : ClassId) (N h0 : Nat) : ∀ i : Nat, Jvm.Free.Multi.outerC c N h0 i = arrV c N (fun j => va_rf (if j < i then some (h0 + 1 + j) else none))
  | 0 => by
    show ({ cls := c, slots := Array.replicate N .null, vm := .none } : Cell) = _
    rw [arrV_new]
    refine congrArg (arrV c N) (funext fun j => ?_)
    simp [va_rf]
  | i + 1 => by
    show (Jvm.Free.Multi.outerC c N h0 i).setSlot i (.ref (h0 + 1 + i)) = _
    rw [pm_outer c N h0 i, arrV_store]
    refine congrArg (arrV c N) (funext fun j => ?_)
    by_cases e : j = i
    · subst e
      simp [updV, va_rf]
    · by_cases h : j < i
      · simp [updV, e, h, Nat.lt_succ_of_lt h]
      · simp [updV, e, h, show ¬ j < i + 1 by omega]
theorem pm_s27 : k_an 27 = "[" ++ (FieldType.array .int).toString := by decide +kernel
theorem pm_s0 : (FieldType.array .int).toString = "[" ++ FieldType.int.toString := by decide +kernel
section SIM4M
variable {l : Launch} {D : va_G} {cy : Nat → ClassId} {base b : Nat} {sa sv : Nat → Nat} {p : Program} {e : Env} {R : Room} {s : State} {m : MethodId} {args : Array Value} {below : List Frame} {meth : Method} {c : Code} {Q : State → Prop} {z0 nE zE d : Nat}
variable {g : Nat → Prop} {C : Nat → List Value → pm_M → Option Value → pm_M → Prop} {E : Option Value → pm_M → Prop} {q : pm_D} {K : Nat → pm_L → List Value → pm_M → Prop}
variable {pc : Nat} {ls : pm_L} {st : List Value} {mem mem' : pm_M} {H H1 : Heap} {locs locs1 : List Loc} {cells slots : Nat} {Ls : Array Slot}
theorem pm_new2_old {x y j : Nat} (h2 : j ≤ mem.1.1) : pm_e base b sa cy (pm_new2 mem x y) j = pm_e base b sa cy mem j := by
  have hP : pm_P (fun _ => False) mem (pm_new2 mem x y) := pm_P.new2
  have h3 := hP.2.2.2.2 j h2 id
  exact pm_e_congr (hP.2.2.1 j h2) h3.1 h3.2.1 h3.2.2
theorem sm_mnew {i dd : Nat} (F : pm_fix q D cy sa p s m args meth c) (hK : pm_KW l D cy base b sa sv p e R s m args below meth c Q z0 q.2.2.2.1 K) (hKb : ∀ pc ls st mem, K pc ls st mem → mem.1.1 ≤ nE ∧ mem.1.2.1 ≤ zE) (hRm : pm_Rm base nE zE z0 d s R) (h : pm_ex g C E q K pc ls st mem (.multianewarray i dd)) (hR : pm_Rel D cy base b sa sv s z0 q.2.2.2.1 H locs cells slots Ls ls mem) (hdg : decode q.2.2.1 pc = .ok (.multianewarray i dd, 4)) : W p l e R s m args below meth c H locs cells slots Q (F0 m pc Ls (st.map (pm_v base b sa))) := by
  obtain ⟨hx, hb, hml, hown, hts, hnm, hk⟩ := F
  obtain ⟨x, y, r, rfl, rfl, hx0, hy0, hxm, hym, hw, hn, h⟩ := h
  have hlk : Jvm.Cond.classLink (k_cn q.2.1) i (k_an 27) ∈ pm_tbl := k_nw_ok _ hw
  rw [pm_s27] at hlk
  have hbd := pm_more hRm hR (hKb _ _ _ _ h) (Nat.le_add_right _ _) (Nat.le_add_right _ _)
  have e1 : (pm_new2 mem x.toNatClampNeg y.toNatClampNeg).1.1 - mem.1.1 = 1 + x.toNatClampNeg := by show mem.1.1 + (1 + x.toNatClampNeg) - mem.1.1 = _; omega
  have e2 : (pm_new2 mem x.toNatClampNeg y.toNatClampNeg).1.2.1 - mem.1.2.1 = x.toNatClampNeg + x.toNatClampNeg * y.toNatClampNeg := by show mem.1.2.1 + (x.toNatClampNeg + x.toNatClampNeg * y.toNatClampNeg) - mem.1.2.1 = _; omega
  rw [e1, e2] at hbd
  refine W.sized (fun hsz => ?_)
  have hz := hR.size hsz
  intro T hT Xs
  obtain ⟨vm₁, cA, comp, -, fA, fC, hO, -, X', step⟩ := Xs.multianewarray2F (ty := .int) hx hown (hts _ hlk) (show (Jvm.Cond.arrayOver (.array .int)).before args s = true from hk.2.2.2.2.1) (hts _ k_acI) (g := F0 m pc Ls (.int y :: .int x :: r.map (pm_v base b sa))) rfl (by rw [hb]; exact hdg) rfl hx0 hy0 (by omega) (Nat.le_trans (Nat.mul_le_mul hym (show componentBytes .int ≤ 4 by decide)) (by decide)) (by omega) (by decide) (by decide) hbd.1 hbd.2
  have hcA : cA = cy 7 := Option.some.inj (fA.symm.trans (hk.1.2 7 (cy 7, .array .int) rfl).2)
  rw [pm_s0] at fC
  have hcC : comp = cy 0 := Option.some.inj (fC.symm.trans (hk.1.2 0 (cy 0, .int) rfl).2)
  subst hcA
  subst hcC
  generalize hF : Jvm.Free.Multi.fill (T.setVm vm₁) (cy 7) (cy 0) x.toNatClampNeg y.toNatClampNeg (defaultValue .int) x.toNatClampNeg = G at X' step
  have hTh : (T.setVm vm₁).heap = H := hT
  obtain ⟨f1, f2, -, -⟩ := Jvm.Free.Multi.fill_facts (T.setVm vm₁) (cy 7) (cy 0) x.toNatClampNeg y.toNatClampNeg (defaultValue .int) x.toNatClampNeg
  rw [hF, hTh] at f1 f2
  have hold : ∀ a : Nat, a < H.size → G.heap[a]? = H[a]? := fun a ha => by
    have := Jvm.Free.Multi.fill_old (T.setVm vm₁) (cy 7) (cy 0) x.toNatClampNeg y.toNatClampNeg (defaultValue .int) (a := a) (by rw [hTh]; exact ha) x.toNatClampNeg
    rw [hF, hTh] at this
    exact this
  have hrow : ∀ j : Nat, j < x.toNatClampNeg → G.heap[H.size + 1 + j]? = some (Jvm.Free.Multi.innerC (cy 0) y.toNatClampNeg (defaultValue .int)) := fun j hj => by
    have := Jvm.Free.Multi.fill_inner (T.setVm vm₁) (cy 7) (cy 0) x.toNatClampNeg y.toNatClampNeg (defaultValue .int) x.toNatClampNeg j hj
    rw [hF, hTh] at this
    exact this
  have hadj : ∀ j : Nat, j ≤ x.toNatClampNeg → pm_ad base b sa (mem.1.1 + 1 + j) = H.size + j := fun j hj => by
    rw [pm_ad_in (by omega) (by omega), hz]
    omega
  have hP1 : va_P D k_cl (pm_ws base b sa cy (pm_new2 mem x.toNatClampNeg y.toNatClampNeg)) G.heap := by
    rw [pm_ws_more (mem := mem) (n := 1 + x.toNatClampNeg) rfl (fun j _ hj => pm_new2_old hj)]
    refine (hR.1.2.1.kept (fun k a ha => hold a.1 (hR.1.2.1 k a ha).lt)).app (fun k a ha => ?_)
    rw [List.getElem?_map] at ha
    have hk1 : k < 1 + x.toNatClampNeg := by
      rcases Nat.lt_or_ge k (1 + x.toNatClampNeg) with z | z
      · exact z
      · rw [List.getElem?_eq_none (by rw [List.length_range]; exact z)] at ha
        cases ha
    rw [List.getElem?_range hk1] at ha
    cases ha
    show va_at D k_cl (pm_ad base b sa (mem.1.1 + k + 1), pm_e base b sa cy (pm_new2 mem x.toNatClampNeg y.toNatClampNeg) (mem.1.1 + k + 1)) G.heap
    rw [Nat.add_right_comm, hadj k (by omega)]
    rcases Nat.eq_zero_or_pos k with h0 | h0
    · subst h0
      have htg : (pm_new2 mem x.toNatClampNeg y.toNatClampNeg).1.2.2 (mem.1.1 + 1 + 0) = (27, x.toNatClampNeg) := if_pos rfl
      rw [pm_e_ref (t := 27) (by rw [htg]) (by decide), htg]
      show G.heap[H.size]? = some (vp_cell (cy 7) (_, Sum.inr (Sum.inr (Sum.inr (Sum.inr _)))))
      rw [vp_cell_q, f2, pm_outer]
      congr 2
      funext j
      by_cases hj : j < x.toNatClampNeg
      · have e3 : (pm_new2 mem x.toNatClampNeg y.toNatClampNeg).2.2.2 (mem.1.1 + 1 + 0) j = some (mem.1.1 + 1 + 1 + j) := if_pos ⟨rfl, hj⟩
        rw [if_pos hj, e3]
        show _ = va_rf (some (pm_ad base b sa (mem.1.1 + 1 + 1 + j)))
        rw [Nat.add_assoc (mem.1.1 + 1) 1 j, hadj (1 + j) (by omega), Nat.add_assoc]
      · have e3 : (pm_new2 mem x.toNatClampNeg y.toNatClampNeg).2.2.2 (mem.1.1 + 1 + 0) j = none := by
          show pm_zr _ _ _ _ _ _ _ = _
          unfold pm_zr
          rw [if_neg (fun z => hj z.2), if_pos (by omega)]
        rw [if_neg hj, e3]
        rfl
    · have htg : (pm_new2 mem x.toNatClampNeg y.toNatClampNeg).1.2.2 (mem.1.1 + 1 + k) = (20, y.toNatClampNeg) := by
        show (if _ then _ else if _ then _ else _) = _
        rw [if_neg (by omega), if_pos (by omega)]
      rw [pm_e_int (t := 20) (by rw [htg]) (by decide) (by decide), htg]
      show G.heap[H.size + k]? = some (vp_cell (cy 0) (_, Sum.inl _))
      have h7 := hrow (k - 1) (by omega)
      rw [show H.size + 1 + (k - 1) = H.size + k by omega] at h7
      rw [vp_cell_i, h7]
      show some ({ cls := cy 0, slots := Array.replicate y.toNatClampNeg (defaultValue .int), vm := .none } : Cell) = _
      rw [arrV_new]
      congr 2
      funext j
      have e3 : (pm_new2 mem x.toNatClampNeg y.toNatClampNeg).2.1 (mem.1.1 + 1 + k) j = 0 := pm_z_in (f := mem.2.1) ⟨by omega, by omega⟩
      rw [e3]
      rfl
  have hS1 : va_S (pm_A base) s.heap G.heap locs := ⟨Nat.le_trans hR.2.1.1 (by omega), fun a h1 h2 => (hold a (Nat.lt_of_lt_of_le h1 hR.2.1.1)).trans (hR.2.1.2.1 a h1 h2), hR.2.1.2.2⟩
  have hP0 : pm_P (fun _ => False) mem (pm_new2 mem x.toNatClampNeg y.toNatClampNeg) := pm_P.new2
  have h3 := hK _ _ _ _ G.heap locs (cells + 1 + x.toNatClampNeg) (slots + x.toNatClampNeg + x.toNatClampNeg * y.toNatClampNeg) Ls h ⟨hR.1.put hR.2.1 hS1 hR.2.2.1.1 hP1 (show mem.1.1 + (1 + x.toNatClampNeg) < 999999 by omega) (hP0.2.2.1 0 (Nat.zero_le _)) hP0.2.2.2.1, hS1, ⟨hR.2.2.1.1, by
    have := hR.2.2.1.2
    show base + (mem.1.1 + (1 + x.toNatClampNeg)) = _
    omega⟩, by
    have := hR.2.2.2.1
    show z0 + _ = mem.1.2.1 + (x.toNatClampNeg + x.toNatClampNeg * y.toNatClampNeg)
    omega, hR.2.2.2.2⟩
  simp only [List.map_cons, pm_v_ref] at h3
  have hadn : pm_ad base b sa (mem.1.1 + 1) = T.heap.size := by
    have := hadj 0 (Nat.zero_le _)
    rw [hT]
    exact this
  rw [hadn] at h3
  obtain ⟨t2, a1, b1⟩ := h3 G rfl X'
  exact ⟨t2, step t2 a1, b1⟩
end SIM4M
end
section
/-! ===== calls, answers, and the whole: a run of the small machine is a contract of the machine's ===== -/
theorem k_nest_form : ∀ w ∈ k_nest, ∃ a i x h, w = .methodLinkNest a i x h := by
  intro w h
  simp only [k_nest, List.mem_cons, List.not_mem_nil, or_false] at h
  rcases h with rfl | rfl | rfl | rfl | rfl | rfl | rfl | rfl | rfl | rfl | rfl | rfl | rfl | rfl | rfl | rfl
  all_goals exact ⟨_, _, _, _, rfl⟩
theorem k_cst_form : ∀ w ∈ k_cst, ∃ a c, w = .castable a c := by
  intro w h
  simp only [k_cst, List.mem_cons, List.not_mem_nil, or_false] at h
  rcases h with rfl | rfl | rfl | rfl | rfl
  all_goals exact ⟨_, _, rfl⟩
theorem k_max : ∀ q ∈ pm_all, q.2.2.2.1 ≤ 900 := by decide +kernel
theorem pm_AA_spec {s : State} (h : pm_AA s) : ∃ comp c k, s.vm.findClass (FieldType.array .int).toString = some comp ∧ (s.vm.classes.findIdx? fun (x : Class) => match x.kind with | .array component _ => component == comp | _ => false) = some c ∧ s.vm.classes[c]? = some k ∧ k.kind = .array comp (.array .int) ∧ s.vm.findClass ("[" ++ (FieldType.array .int).toString) = some c := by
  unfold pm_AA at h
  simp only [Cond.before, Cond.holds, Cond.value, beq_iff_eq] at h
  cases hc : s.vm.findClass (FieldType.array .int).toString with
  | none => simp [hc] at h
  | some comp =>
    simp only [hc, Option.bind_some, Option.bind_eq_some_iff, Option.map_eq_some_iff] at h
    obtain ⟨c, hi, k, hk, hb⟩ := h
    obtain ⟨hlt, hp, -⟩ := Array.findIdx?_eq_some_iff_getElem.mp hi
    have hkk : s.vm.classes[c] = k := (Array.getElem?_eq_some_iff.mp hk).2
    rw [hkk] at hp
    cases hkind : k.kind with
    | array component ty =>
      rw [hkind] at hb hp
      simp at hb hp
      exact ⟨comp, c, k, rfl, hi, hk, by rw [hkind, hp, hb.1], hb.2⟩
    | _ => rw [hkind] at hb; simp at hb
theorem pm_AA.moved {u U : State} (hvm : u.vm.Alike U.vm) (h : pm_AA u) : pm_AA U := by
  obtain ⟨comp, c, k, h1, h2, h3, h4, h5⟩ := pm_AA_spec h
  obtain ⟨k', hk', he⟩ := hvm.2.2 _ _ h3
  have hi : (U.vm.classes.findIdx? fun (x : Class) => match x.kind with | .array component _ => component == comp | _ => false) = some c := by
    refine (((va_idx_bare U.vm comp).symm.trans (Eq.trans ?_ (va_idx_bare u.vm comp))).trans h2)
    first | rw [hvm.bare_eq] | rw [← hvm.bare_eq]
  have hkind : k'.kind = .array comp (.array .int) := by rw [he]; exact h4
  have f2 : U.vm.findClass ("[" ++ (FieldType.array .int).toString) = some c := by rw [hvm.findClass]; exact h5
  have f1 : U.vm.findClass (FieldType.array .int).toString = some comp := by rw [hvm.findClass]; exact h1
  unfold pm_AA Cond.before Cond.holds
  simp only [Cond.value]
  rw [f1, Option.bind_some]
  refine (congrArg (fun o : Option Nat => (o.bind (fun c => (U.vm.classes[c]?).map fun (k : Class) => match k.kind with | .array _ ty => decide (ty = FieldType.array .int) && decide (U.vm.findClass ("[" ++ (FieldType.array .int).toString) = some c) | _ => false) == some true)) hi).trans ?_
  simp [hk', hkind, f2]
section KMV
variable {D : va_G} {cy : Nat → ClassId} {base b : Nat} {sa sv : Nat → Nat}
theorem pm_K.warm {s U : State} (hW : s.WarmedH U.vm) (h : pm_K D cy sa s) : pm_K D cy sa U := by
  obtain ⟨h1, h2, h3, h4, h5, h6⟩ := h
  refine ⟨va_K.moved hW.alike h1, fun w hw => ?_, fun r hr => (h3 r hr).warm hW, fun t t1 t2 => (h4 t t1 t2).moved hW.alike, h5.moved hW.alike, fun w hw => ?_⟩
  · obtain ⟨a, i, x, hh, rfl⟩ := k_nest_form w hw
    exact va_Nw.warmM hW (h2 _ hw)
  · obtain ⟨a, c, rfl⟩ := k_cst_form w hw
    exact va_Nw.warmC hW (h6 _ hw)
theorem pm_K.same {s U : State} (hv : s.vm = U.vm) (h : pm_K D cy sa s) : pm_K D cy sa U := by
  obtain ⟨h1, h2, h3, h4, h5, h6⟩ := h
  have ha : s.vm.Alike U.vm := by rw [← hv]; exact Vm.Alike.refl _
  refine ⟨va_K.moved ha h1, fun w hw => ?_, fun r hr => (h3 r hr).same hv.symm, fun t t1 t2 => (h4 t t1 t2).moved ha, h5.moved ha, fun w hw => ?_⟩
  · obtain ⟨a, i, x, hh, rfl⟩ := k_nest_form w hw
    exact va_Nw.same rfl hv (h2 _ hw)
  · obtain ⟨a, c, rfl⟩ := k_cst_form w hw
    exact va_Nw.same rfl hv (h6 _ hw)
theorem pm_GH.moved {s U : State} {H : Heap} {mem : pm_M} (ha : s.vm.Alike U.vm) (h : pm_GH D cy base b sa sv s H mem) : pm_GH D cy base b sa sv U H mem :=
  ⟨h.1, h.2.1, h.2.2.1.moved ha, h.2.2.2.1.moved ha, h.2.2.2.2⟩
variable (D cy base b sa sv) in
def pm_Pc (as : List Value) (mem : pm_M) : Array Value → State → Prop := fun a U => a = (as.map (pm_v base b sa)).toArray ∧ pm_GH D cy base b sa sv U U.heap mem ∧ pm_K D cy sa U ∧ base + mem.1.1 = U.heap.size
variable (D cy base b sa sv) in
def pm_Qc (v : Option Value) (mem' : pm_M) : Array Value → State → Outcome → State → Prop := fun _ st oc t => oc = .returned (v.map (pm_v base b sa)) ∧ pm_GH D cy base b sa sv t t.heap mem' ∧ va_F (pm_A base) st t
theorem pm_Pc.blind {as : List Value} {mem : pm_M} : FrameBlind (pm_Pc D cy base b sa sv as mem) := fun a U g mk h =>
  ⟨h.1, h.2.1.moved (s := U) (U := U.calling g mk a) (Vm.Alike.refl U.vm), h.2.2.1.same (s := U) (U := U.calling g mk a) rfl, h.2.2.2⟩
end KMV
def pm_wsM (q : pm_D) : List Jvm.Cond := .code q.1 q.2.2.1 q.2.2.2.1 q.2.2.2.2.1 :: pm_tbl
def pm_rm (d mc ms : Nat) : Room := { frames := d, cells := mc, slots := ms, locals := 1000 * d }
def pm_mt (l : Launch) (D : va_G) (cy : Nat → ClassId) (base b : Nat) (sa sv : Nat → Nat) (d M : Nat) (as : List Value) (mem : pm_M) (v : Option Value) (mem' : pm_M) : Prop :=
  ∀ q, pm_all[M]? = some q → plainName q.1.cls = true → Met l q.1 (pm_wsM q) (pm_rm d (mem'.1.1 - mem.1.1) (mem'.1.2.1 - mem.1.2.1)) (pm_Pc D cy base b sa sv as mem) (pm_Qc D cy base b sa sv v mem') (mem'.1.1 - mem.1.1) (mem'.1.2.1 - mem.1.2.1) (pm_A base)
theorem pm_gi {ws : List Jvm.Cond} (h : ∀ w ∈ ws, w ∈ pm_tbl) : GoodIn pm_tbl ws := fun w hw => ⟨h w hw, good_of_word (pm_good (h w hw)).2⟩
theorem pm_wsM_in {q : pm_D} (hq : q ∈ pm_all) : ∀ w ∈ pm_wsM q, w ∈ pm_tbl := fun w hw => by
  rcases List.mem_cons.mp hw with rfl | h
  · exact (k_all_ok q hq).1
  · exact h
section SIM5
variable {l : Launch} {D : va_G} {cy : Nat → ClassId} {base b : Nat} {sa sv : Nat → Nat} {p : Program} {e : Env} {R : Room} {s : State} {m : MethodId} {args : Array Value} {below : List Frame} {meth : Method} {c : Code} {Q : State → Prop} {z0 nE zE d : Nat}
variable {g : Nat → Prop} {C : Nat → List Value → pm_M → Option Value → pm_M → Prop} {E : Option Value → pm_M → Prop} {q : pm_D} {K : Nat → pm_L → List Value → pm_M → Prop}
variable {pc : Nat} {ls : pm_L} {st : List Value} {mem mem' : pm_M} {H H1 : Heap} {locs locs1 : List Loc} {cells slots : Nat} {Ls : Array Slot}
/-- behind a call -/
theorem pm_fin {mc ms : Nat} {v : Option Value} {r : List Value} {a : Array Value} {st0 : List Value} (hr : va_Run p l e R s m args below meth c H locs cells slots mc ms (F0 m pc Ls st0) (r.map (pm_v base b sa)) (pm_Qc D cy base b sa sv v mem' a) (pm_A base)) (hK : pm_KW l D cy base b sa sv p e R s m args below meth c Q z0 q.2.2.2.1 K) (hR : pm_Rel D cy base b sa sv s z0 q.2.2.2.1 H locs cells slots Ls ls mem)
    (hmc : mem.1.1 + mc = mem'.1.1) (hms : mem.1.2.1 + ms = mem'.1.2.1) (h : K (pc + 3) ls (v.toList ++ r) mem') : W p l e R s m args below meth c H locs cells slots Q (F0 m pc Ls st0) := by
  intro T hT X
  obtain ⟨w, st₀, t, T', L, h0, X', hL, e1, e2, ⟨hv, hG, hz, hk⟩, st⟩ := hr T hT X
  cases hv
  rw [h0] at hz hk
  have hS1 : va_S (pm_A base) s.heap T'.heap (locs ++ L) := ⟨Nat.le_trans hR.2.1.1 (by rw [e1]; exact hz), fun x h1 h2 => by rw [e1, hk x (Nat.lt_of_lt_of_le h1 hR.2.1.1) h2]; exact hR.2.1.2.1 x h1 h2, fun x hx => by
      rcases List.mem_append.mp hx with h | h
      · exact hR.2.1.2.2 x h
      · exact hL x h⟩
  have ha : t.vm.Alike s.vm := by rw [← e2]; exact X'.warmed.alike.symm
  have hG' : pm_GH D cy base b sa sv s T'.heap mem' := by rw [e1]; exact hG.moved ha
  obtain ⟨t2, a1, b1⟩ := hK _ _ _ _ T'.heap (locs ++ L) (cells + mc) (slots + ms) Ls h ⟨hG', hS1, ⟨hR.2.2.1.1, by have := hR.2.2.1.2; omega⟩, by have := hR.2.2.2.1; omega, hR.2.2.2.2⟩ T' rfl X'
  refine ⟨t2, st t2 ?_, b1⟩
  have hst : (v.toList ++ r).map (pm_v base b sa) = (v.map (pm_v base b sa)).toList ++ r.map (pm_v base b sa) := by cases v <;> simp
  rw [hst] at a1
  exact a1
theorem pm_pre {as : List Value} (F : pm_fix q D cy sa p s m args meth c) (hR : pm_Rel D cy base b sa sv s z0 q.2.2.2.1 H locs cells slots Ls ls mem) (hz : H.size = base + mem.1.1) : ∀ U : State, U.heap = H → s.WarmedH U.vm → pm_Pc D cy base b sa sv as mem (as.map (pm_v base b sa)).toArray U := fun U hU hW =>
  ⟨rfl, by rw [hU]; exact hR.1.moved hW.alike, F.2.2.2.2.2.2.warm hW, by rw [hU, hz]⟩
theorem sm_calls {i : Nat} (F : pm_fix q D cy sa p s m args meth c) (hK : pm_KW l D cy base b sa sv p e R s m args below meth c Q z0 q.2.2.2.1 K) (hKb : ∀ pc ls st mem, K pc ls st mem → mem.1.1 ≤ nE ∧ mem.1.2.1 ≤ zE) (hRm : pm_Rm base nE zE z0 d s R) (hCC : ∀ M as mem v mem', C M as mem v mem' → pm_P g mem mem' ∧ pm_mt l D cy base b sa sv d M as mem v mem') (hR : pm_Rel D cy base b sa sv s z0 q.2.2.2.1 H locs cells slots Ls ls mem) (hdg : decode q.2.2.1 pc = .ok (.invokestatic i, 3))
    (h : pm_call C q K i [0, 1] true pc ls st mem) : W p l e R s m args below meth c H locs cells slots Q (F0 m pc Ls (st.map (pm_v base b sa))) := by
  obtain ⟨kd, tg, M, na, As, r, v, mem', hc, hkd, hna, hr, hh, hk⟩ := h
  rcases hh with ⟨-, hs, hC⟩ | ⟨hf, -⟩
  · obtain ⟨q0, hq0, hhd, hck⟩ := k_cs_ok _ hc
    dsimp only at hq0 hhd hck
    have hkd8 : kd < 8 := by
      rcases List.mem_cons.mp hkd with rfl | hkd
      · decide
      · rcases List.mem_cons.mp hkd with rfl | hkd
        · decide
        · cases hkd
    obtain ⟨hpl, hmh, hvh, hpd⟩ := hhd hkd8
    have hqm : q0 ∈ pm_all := List.mem_of_getElem? hq0
    obtain ⟨hPP, hMt⟩ := hCC _ _ _ _ _ hC
    have hMt := hMt q0 hq0 hpl
    have hok := k_all_ok q0 hqm
    have hbd := pm_more hRm hR (hKb _ _ _ _ hk) hPP.1 hPP.2.1
    have hmx := k_max q0 hqm
    refine W.sized (fun hsz => ?_)
    have hz := hR.size hsz
    have hpre : PreS s H (pm_Pc D cy base b sa sv As mem) (As.map (pm_v base b sa)) := ⟨pm_Pc.blind, pm_pre F hR hz⟩
    have hst : st.map (pm_v base b sa) = (As.map (pm_v base b sa)).reverse ++ r.map (pm_v base b sa) := by rw [hs, List.map_append, List.map_reverse]
    obtain ⟨hx, hb, hml, hown, hts, hnm, hk1⟩ := F
    have hroom : (pm_rm d (mem'.1.1 - mem.1.1) (mem'.1.2.1 - mem.1.2.1)).frames + 1 ≤ R.frames ∧ 8 + (q0.2.2.2.1 + 11) + (pm_rm d (mem'.1.1 - mem.1.1) (mem'.1.2.1 - mem.1.2.1)).locals ≤ R.locals := ⟨hRm.1, by have := hRm.2.1; show 8 + (q0.2.2.2.1 + 11) + 1000 * d ≤ _; omega⟩
    have hsum : 2 * (F0 m pc Ls (st.map (pm_v base b sa))).monitorRoom + ((r.map (pm_v base b sa)).map fun v => v.category).sum ≤ 8 := lv_room (by rw [pm_v_sum]; exact hr)
    rcases List.mem_cons.mp hkd with rfl | hkd
    · obtain ⟨w1, w2⟩ := hck
      refine pm_fin (va_runS (g := F0 m pc Ls (st.map (pm_v base b sa))) (As := As.map (pm_v base b sa)) (n := na) ⟨hx, hb, hml, hown, hts⟩ hMt (va_cwS na hts (pm_gi (fun w hw => ?_)) rfl rfl rfl ⟨hmh, hvh, hpd⟩ hroom) hpre rfl (by rw [List.length_map]; exact hna) hR.2.2.2.2.1 hst hsum hdg hbd) hK hR (by have := hPP.1; omega) (by have := hPP.2.1; omega) hk
      rcases List.mem_append.mp hw with h | h
      · simp only [List.mem_cons, List.not_mem_nil, or_false] at h
        rcases h with rfl | rfl | rfl
        · exact w1
        · exact w2
        · exact hok.2.2.2
      · exact pm_wsM_in hqm w h
    · rcases List.mem_cons.mp hkd with rfl | hkd
      · obtain ⟨w1, w2⟩ := hck
        exact pm_fin (va_runSN (g := F0 m pc Ls (st.map (pm_v base b sa))) (As := As.map (pm_v base b sa)) (n := na) (host := "StandUpBook") ⟨hx, hb, hml, hown, hts⟩ hMt ⟨va_cnB na hts (pm_gi (pm_wsM_in hqm)) rfl rfl rfl (hk1.2.1 _ w1) (hts _ hok.2.2.2) ⟨hmh, hvh, hpd⟩ hroom, hts _ w2, trivial⟩ hpre rfl (by rw [List.length_map]; exact hna) hR.2.2.2.2.1 hst hsum hdg hbd) hK hR (by have := hPP.1; omega) (by have := hPP.2.1; omega) hk
      · cases hkd
  · cases hf
theorem k_tg : ∀ r ∈ k_cs, 2 ≤ r.2.2.1 ∧ r.2.2.1 < 8 → r.2.2.2.1 < 13 := by decide +kernel
theorem k_init_ret : ∀ q ∈ pm_all, q.1.name = "<init>" → q.2.2.2.2.1 = none := by decide +kernel
/-- super.m() where the superclass has m from above: as the kit's row for its own m -/
theorem pm_runSO {x y : MethodName} {bytes cc : ByteArray} {maxL nL mc ms n index : Nat} {ret : Option FieldType} {ws' : List Jvm.Cond} {rm : Room} {Pc : Array Value → State → Prop} {Qc : Array Value → State → Outcome → State → Prop} {free : Addr → Prop} {Ts : List Jvm.Cond} {own C : String} {cC : ClassId} {b : Addr} {As rest : List Value} {g : JFrame}
    (hat : ClassAt s C cC) (S : CallFix p m c cc nL s args Ts own) (hM : Met l y (.code y bytes maxL ret :: ws') rm Pc Qc mc ms free) (hrc : rm.cells = mc) (hrs : rm.slots = ms) (hR : rm.frames + 1 ≤ R.frames ∧ 8 + (maxL + 11) + rm.locals ≤ R.locals) (hG : GoodIn Ts (.code y bytes maxL ret :: ws'))
    (hlink : (Jvm.Cond.methodLink own index x).before args s = true) (hsame : (Jvm.Cond.sameMethod x.cls y.cls x.name x.desc).before args s = true) (hsup : (Jvm.Cond.superclass own x.cls).before args s = true) (hsup2 : (Jvm.Cond.superclass x.cls y.cls).before args s = true) (hinst : (Jvm.Cond.instanceMethod y).before args s = true) (hini : (Jvm.Cond.initialized y.cls).before args s = true) (hcode : (Jvm.Cond.code y bytes maxL ret).before args s = true) (hyn : y.name = x.name) (hyd : y.desc = x.desc) (hno : y.name ≠ "<init>") (hpd : (parseMethodDescriptor y.desc).map (fun d => d.parameters.length) = some n)
    (hp : PreV s H C b Pc As)
    (hg : g.method = m) (hn : As.length = n) (hsize : g.locals.size = nL) (hstack : g.stack = As.reverse ++ .ref b :: rest) (hW : 2 * g.monitorRoom + (rest.map fun v => v.category).sum ≤ 8) (hdg : decode cc g.pc = .ok (.invokespecial index, 3)) (hf : cells + mc ≤ R.cells ∧ slots + ms ≤ R.slots) :
    va_Run p l e R s m args below meth c H locs cells slots mc ms g rest (Qc (Value.ref b :: As).toArray) (free) := by
  obtain ⟨hx, hb, hml, ho, ht⟩ := S
  have hK : Back l R p e below s args y 3 8 (PreOf R mc ms Pc) (PostOf Qc mc ms free) := back_of (bytes := bytes) (maxL := maxL) (ret := ret) hM hp.1 hrc hrs hR.1 hR.2 (pay_in ht hG) List.mem_cons_self (fun a' U hW => word_at hW (Or.inl (by first | rfl | simp [Cond.onTables, Cond.keeps, Cond.steady])) hini)
  obtain ⟨-, ⟨cellB, hcB, hoB, hclB⟩, hPc⟩ := hp
  obtain ⟨hfc, kB, hkB, -⟩ := hat
  cases hfc.symm.trans hclB
  intro T hT X
  obtain ⟨mk, methM, hnamed, hmethM, hstM, habM⟩ := Cond.instanceMethod_spec hinst
  obtain ⟨methM', cM, hmethM', -, -, -, -, -, -, hsigM⟩ := Cond.code_spec hnamed hcode
  cases hmethM.symm.trans hmethM'
  obtain ⟨ps, dk, kp, hps, hdk, hkp, hsuper, -, -, hnid⟩ := Cond.superclass_spec ho hsup
  obtain ⟨ps2, dk2, kp2, hps2, hdk2, hkp2, hsuper2, -, -, -⟩ := Cond.superclass_spec hps hsup2
  have hn0 : s.methodNamed? ⟨y.cls, x.name, x.desc⟩ = some mk := by rw [← hyn, ← hyd]; exact hnamed
  have hpm : ps2 = mk.cls := Option.some.inj (hps2.symm.trans (findClass_of_methodNamed hnamed))
  have hne : ∃ n, s.vm.classes.size = n + 1 := by
    have := (Array.getElem?_eq_some_iff.mp hdk2).1
    exact ⟨s.vm.classes.size - 1, by omega⟩
  obtain ⟨nz, hnz⟩ := hne
  have hsub : s.vm.isSubclass ps mk.cls = true := by
    rw [← hpm]
    simp [Vm.isSubclass, Vm.isSubclassAux, hdk2, hsuper2, hnz]
  have hnx : x.name ≠ "<init>" := by rw [← hyn]; exact hno
  have hlen : As.length = methM.sig.parameters.length := by
    rw [hsigM] at hpd
    rw [hn]
    exact (Option.some.inj hpd).symm
  obtain ⟨vm₁, X₁, hstep₁⟩ := X.invokespecialUp hx ho hlink hsame hn0 hmethM hstM habM hnx hdk hnid hps hsuper hsub (a := b) (cell := cellB) (by rw [hT]; exact hcB)
    (fun z h => by rw [h] at hoB; cases hoB) hkB (g := g) hg (argsL := As) (rest := rest) hlen hstack (by rw [hb]; exact hdg)
  obtain ⟨v, ⟨U', l2, c2, s2⟩, X', ⟨g', mk', t, L, e1, e2, hq, h1, hL, h2, h3⟩, hsteps⟩ := hK m meth c ⟨T.setVm vm₁, locs, cells, slots⟩ { g with stack := rest } (.invokespecial index) mk (Value.ref b :: As).toArray X₁ hg (hsize.trans hml.symm) (by rw [hb]; exact hdg) hW (X₁.named hnamed) ⟨hf.1, hf.2, hPc (T.setVm vm₁) hT X₁.warmed⟩
  dsimp only [Pt.U, Pt.locs, Pt.cells, Pt.slots] at X' e1 e2 h1 h2 h3 hsteps
  subst h1; subst h2; subst h3
  exact ⟨v, (T.setVm vm₁).calling g' mk' (Value.ref b :: As).toArray, t, U', L, hT, X', hL, e1, e2, hq, fun target h => hstep₁ _ (by rw [doInvoke_state]; exact hsteps.trans h)⟩
theorem sm_callv {i : Nat} (F : pm_fix q D cy sa p s m args meth c) (hK : pm_KW l D cy base b sa sv p e R s m args below meth c Q z0 q.2.2.2.1 K) (hKb : ∀ pc ls st mem, K pc ls st mem → mem.1.1 ≤ nE ∧ mem.1.2.1 ≤ zE) (hRm : pm_Rm base nE zE z0 d s R) (hCC : ∀ M as mem v mem', C M as mem v mem' → pm_P g mem mem' ∧ pm_mt l D cy base b sa sv d M as mem v mem') (hR : pm_Rel D cy base b sa sv s z0 q.2.2.2.1 H locs cells slots Ls ls mem) (hdg : decode q.2.2.1 pc = .ok (.invokevirtual i, 3))
    (h : pm_call C q K i [2, 3] false pc ls st mem) : W p l e R s m args below meth c H locs cells slots Q (F0 m pc Ls (st.map (pm_v base b sa))) := by
  obtain ⟨kd, tg, M, na, As, r, v, mem', hc, hkd, hna, hr, hh, hk⟩ := h
  rcases hh with ⟨hf, -⟩ | ⟨-, k, hs, ⟨i1, i2, i3⟩, hC⟩
  · cases hf
  · obtain ⟨q0, hq0, hhd, hck⟩ := k_cs_ok _ hc
    dsimp only at hq0 hhd hck
    have hkd8 : kd < 8 := by
      revert hkd
      simp only [List.mem_cons, List.not_mem_nil, or_false]
      omega
    obtain ⟨hpl, hmh, hvh, hpd⟩ := hhd hkd8
    have hqm : q0 ∈ pm_all := List.mem_of_getElem? hq0
    obtain ⟨hPP, hMt⟩ := hCC _ _ _ _ _ hC
    have hMt := hMt q0 hq0 hpl
    have hok := k_all_ok q0 hqm
    have hbd := pm_more hRm hR (hKb _ _ _ _ hk) hPP.1 hPP.2.1
    have hmx := k_max q0 hqm
    have htg : tg < 13 := k_tg _ hc (by dsimp only; revert hkd; simp only [List.mem_cons, List.not_mem_nil, or_false]; omega)
    refine W.sized (fun hsz => ?_)
    have hz := hR.size hsz
    obtain ⟨rc, hcl⟩ : ∃ rc, k_cl[tg]? = some rc := ⟨_, List.getElem?_eq_getElem (by simpa [k_cl] using htg)⟩
    have hrc := (k_cl_ok _ _ hcl).2.2.2.2.2.1
    have he := pm_ws_get (base := base) (b := b) (sa := sa) (cy := cy) i1 i2
    rw [pm_e_obj i3 (by omega)] at he
    have hrecv := va_recv F.2.2.2.2.2.2.1 hR.1.2.1 hcl he
    rw [hrc] at hrecv
    have hcat : ClassAt s (k_cn tg) (D.1 tg) := by rw [← hrc]; exact (F.2.2.2.2.2.2.1.1 tg rc hcl).2
    have hpre : PreV s H (k_cn tg) (pm_ad base b sa k) (pm_Pc D cy base b sa sv (.ref k :: As) mem) (As.map (pm_v base b sa)) := ⟨pm_Pc.blind, hrecv, pm_pre (as := .ref k :: As) F hR hz⟩
    have hpreS : PreS s H (pm_Pc D cy base b sa sv (.ref k :: As) mem) (.ref (pm_ad base b sa k) :: As.map (pm_v base b sa)) := ⟨pm_Pc.blind, pm_pre (as := .ref k :: As) F hR hz⟩
    have hst : st.map (pm_v base b sa) = (As.map (pm_v base b sa)).reverse ++ .ref (pm_ad base b sa k) :: r.map (pm_v base b sa) := by rw [hs, List.map_append, List.map_reverse]; rfl
    obtain ⟨hx, hb, hml, hown, hts, hnm, hk1⟩ := F
    have hroom : (pm_rm d (mem'.1.1 - mem.1.1) (mem'.1.2.1 - mem.1.2.1)).frames + 1 ≤ R.frames ∧ 8 + (q0.2.2.2.1 + 11) + (pm_rm d (mem'.1.1 - mem.1.1) (mem'.1.2.1 - mem.1.2.1)).locals ≤ R.locals := ⟨hRm.1, by have := hRm.2.1; show 8 + (q0.2.2.2.1 + 11) + 1000 * d ≤ _; omega⟩
    have hsum : 2 * (F0 m pc Ls (st.map (pm_v base b sa))).monitorRoom + ((r.map (pm_v base b sa)).map fun v => v.category).sum ≤ 8 := lv_room (by rw [pm_v_sum]; exact hr)
    have hlen : (As.map (pm_v base b sa)).length = na := by rw [List.length_map]; exact hna
    rcases List.mem_cons.mp hkd with rfl | hkd
    · obtain ⟨w1, w2, w3, w4⟩ := hck
      refine pm_fin (va_runV (g := F0 m pc Ls (st.map (pm_v base b sa))) (As := As.map (pm_v base b sa)) (n := na) (C := k_cn tg) ⟨hx, hb, hml, hown, hts⟩ hMt (cwV na hts (pm_gi (fun w hw => ?_)) rfl rfl rfl ⟨w4, hmh, hvh, hpd⟩ hroom) hpre rfl hlen hR.2.2.2.2.1 hst hsum hdg hbd) hK hR (by have := hPP.1; omega) (by have := hPP.2.1; omega) hk
      rcases List.mem_append.mp hw with h | h
      · simp only [List.mem_cons, List.not_mem_nil, or_false] at h
        rcases h with rfl | rfl | rfl | rfl
        · exact w1
        · exact w2
        · exact w3
        · rw [← w4]
          exact hok.2.2.2
      · exact pm_wsM_in hqm w h
    · rcases List.mem_cons.mp hkd with rfl | hkd
      · obtain ⟨x, w1, w2, w3, w4, w5, w6, w7, w8, w9, b0, m0, r0, w10⟩ := hck
        refine pm_fin (va_runU (g := F0 m pc Ls (st.map (pm_v base b sa))) (As := As.map (pm_v base b sa)) (n := na) (C := k_cn tg) (owner := x.cls) (x := x) ⟨hx, hb, hml, hown, hts⟩ hMt (va_cwO na hts (pm_gi (fun w hw => ?_)) rfl rfl rfl w10 ⟨w8, w9, by rw [← w7]; exact hpd⟩ hroom) hpre rfl hlen hR.2.2.2.2.1 hst hsum hdg hbd) hK hR (by have := hPP.1; omega) (by have := hPP.2.1; omega) hk
        rcases List.mem_append.mp hw with h | h
        · simp only [List.mem_cons, List.not_mem_nil, or_false] at h
          rcases h with rfl | rfl | rfl | rfl | rfl | rfl
          · exact w1
          · exact w2
          · exact w3
          · exact w4
          · exact w5
          · exact hok.2.2.2
        · exact pm_wsM_in hqm w h
      · cases hkd
theorem sm_callp {i : Nat} (F : pm_fix q D cy sa p s m args meth c) (hK : pm_KW l D cy base b sa sv p e R s m args below meth c Q z0 q.2.2.2.1 K) (hKb : ∀ pc ls st mem, K pc ls st mem → mem.1.1 ≤ nE ∧ mem.1.2.1 ≤ zE) (hRm : pm_Rm base nE zE z0 d s R) (hCC : ∀ M as mem v mem', C M as mem v mem' → pm_P g mem mem' ∧ pm_mt l D cy base b sa sv d M as mem v mem') (hR : pm_Rel D cy base b sa sv s z0 q.2.2.2.1 H locs cells slots Ls ls mem) (hdg : decode q.2.2.1 pc = .ok (.invokespecial i, 3))
    (h : pm_call C q K i [4, 5, 6, 7] false pc ls st mem) : W p l e R s m args below meth c H locs cells slots Q (F0 m pc Ls (st.map (pm_v base b sa))) := by
  obtain ⟨kd, tg, M, na, As, r, v, mem', hc, hkd, hna, hr, hh, hk⟩ := h
  rcases hh with ⟨hf, -⟩ | ⟨-, k, hs, ⟨i1, i2, i3⟩, hC⟩
  · cases hf
  · obtain ⟨q0, hq0, hhd, hck⟩ := k_cs_ok _ hc
    dsimp only at hq0 hhd hck
    have hkd8 : kd < 8 := by
      revert hkd
      simp only [List.mem_cons, List.not_mem_nil, or_false]
      omega
    obtain ⟨hpl, hmh, hvh, hpd⟩ := hhd hkd8
    have hqm : q0 ∈ pm_all := List.mem_of_getElem? hq0
    obtain ⟨hPP, hMt⟩ := hCC _ _ _ _ _ hC
    have hMt := hMt q0 hq0 hpl
    have hok := k_all_ok q0 hqm
    have hbd := pm_more hRm hR (hKb _ _ _ _ hk) hPP.1 hPP.2.1
    have hmx := k_max q0 hqm
    have htg : tg < 13 := k_tg _ hc (by dsimp only; revert hkd; simp only [List.mem_cons, List.not_mem_nil, or_false]; omega)
    refine W.sized (fun hsz => ?_)
    have hz := hR.size hsz
    obtain ⟨rc, hcl⟩ : ∃ rc, k_cl[tg]? = some rc := ⟨_, List.getElem?_eq_getElem (by simpa [k_cl] using htg)⟩
    have hrc := (k_cl_ok _ _ hcl).2.2.2.2.2.1
    have he := pm_ws_get (base := base) (b := b) (sa := sa) (cy := cy) i1 i2
    rw [pm_e_obj i3 (by omega)] at he
    have hrecv := va_recv F.2.2.2.2.2.2.1 hR.1.2.1 hcl he
    rw [hrc] at hrecv
    have hcat : ClassAt s (k_cn tg) (D.1 tg) := by rw [← hrc]; exact (F.2.2.2.2.2.2.1.1 tg rc hcl).2
    have hpre : PreV s H (k_cn tg) (pm_ad base b sa k) (pm_Pc D cy base b sa sv (.ref k :: As) mem) (As.map (pm_v base b sa)) := ⟨pm_Pc.blind, hrecv, pm_pre (as := .ref k :: As) F hR hz⟩
    have hpreS : PreS s H (pm_Pc D cy base b sa sv (.ref k :: As) mem) (.ref (pm_ad base b sa k) :: As.map (pm_v base b sa)) := ⟨pm_Pc.blind, pm_pre (as := .ref k :: As) F hR hz⟩
    have hst : st.map (pm_v base b sa) = (As.map (pm_v base b sa)).reverse ++ .ref (pm_ad base b sa k) :: r.map (pm_v base b sa) := by rw [hs, List.map_append, List.map_reverse]; rfl
    obtain ⟨hx, hb, hml, hown, hts, hnm, hk1⟩ := F
    have hroom : (pm_rm d (mem'.1.1 - mem.1.1) (mem'.1.2.1 - mem.1.2.1)).frames + 1 ≤ R.frames ∧ 8 + (q0.2.2.2.1 + 11) + (pm_rm d (mem'.1.1 - mem.1.1) (mem'.1.2.1 - mem.1.2.1)).locals ≤ R.locals := ⟨hRm.1, by have := hRm.2.1; show 8 + (q0.2.2.2.1 + 11) + 1000 * d ≤ _; omega⟩
    have hsum : 2 * (F0 m pc Ls (st.map (pm_v base b sa))).monitorRoom + ((r.map (pm_v base b sa)).map fun v => v.category).sum ≤ 8 := lv_room (by rw [pm_v_sum]; exact hr)
    have hlen : (As.map (pm_v base b sa)).length = na := by rw [List.length_map]; exact hna
    simp only [List.mem_cons, List.not_mem_nil, or_false] at hkd
    rcases hkd with rfl | rfl | rfl | rfl
    · obtain ⟨x, w1, w2, w3, w4, w5, w6, w7, w8⟩ := hck
      exact pm_fin (pm_runSO (g := F0 m pc Ls (st.map (pm_v base b sa))) (As := As.map (pm_v base b sa)) (n := na) (C := k_cn tg) (x := x) hcat ⟨hx, hb, hml, hown, hts⟩ hMt rfl rfl hroom (pm_gi (pm_wsM_in hqm)) (hts _ w1) (hts _ w2) (hts _ w3) (hts _ w4) (hts _ w5) (hts _ hok.2.2.2) (hts _ hok.1) w6 w7 w8 hpd hpre rfl hlen hR.2.2.2.2.1 hst hsum hdg hbd) hK hR (by have := hPP.1; omega) (by have := hPP.2.1; omega) hk
    · obtain ⟨w1, w2, w3⟩ := hck
      have hret : q0.2.2.2.2.1 = none := k_init_ret q0 hqm w3
      have hMt' := hMt
      have hin := pm_wsM_in hqm
      unfold pm_wsM at hMt' hin
      rw [hret] at hMt' hin
      exact pm_fin (va_runI (g := F0 m pc Ls (st.map (pm_v base b sa))) (As := As.map (pm_v base b sa)) (n := na) ⟨hx, hb, hml, hown, hts⟩ hMt' (cwI na hts (pm_gi hin) rfl rfl rfl (hts _ hok.2.2.2) (hts _ w1) (hts _ w2) w3 ⟨hmh, hvh, hpd⟩ hroom) hpreS rfl hlen hR.2.2.2.2.1 hst hsum hdg hbd) hK hR (by have := hPP.1; omega) (by have := hPP.2.1; omega) hk
    · obtain ⟨w1, w2, w3⟩ := hck
      have hret : q0.2.2.2.2.1 = none := k_init_ret q0 hqm w3
      have hMt' := hMt
      have hin := pm_wsM_in hqm
      unfold pm_wsM at hMt' hin
      rw [hret] at hMt' hin
      exact pm_fin (va_runIN (g := F0 m pc Ls (st.map (pm_v base b sa))) (As := As.map (pm_v base b sa)) (n := na) (host := "StandUpBook") ⟨hx, hb, hml, hown, hts⟩ hMt' ⟨va_cnB na hts (pm_gi hin) rfl rfl rfl (hk1.2.1 _ w1) (hts _ hok.2.2.2) ⟨hmh, hvh, hpd⟩ hroom, w3, hts _ w2⟩ hpreS rfl hlen hR.2.2.2.2.1 hst hsum hdg hbd) hK hR (by have := hPP.1; omega) (by have := hPP.2.1; omega) hk
    · obtain ⟨w1, w2, w3, w4, w5⟩ := hck
      refine pm_fin (va_runSU (g := F0 m pc Ls (st.map (pm_v base b sa))) (As := As.map (pm_v base b sa)) (n := na) (C := k_cn tg) hcat ⟨hx, hb, hml, hown, hts⟩ hMt (va_cwSU na hts (pm_gi (fun w hw => ?_)) rfl rfl rfl ⟨w5, hpd⟩ hroom) hpre rfl hlen hR.2.2.2.2.1 hst hsum hdg hbd) hK hR (by have := hPP.1; omega) (by have := hPP.2.1; omega) hk
      rcases List.mem_append.mp hw with h | h
      · simp only [List.mem_cons, List.not_mem_nil, or_false] at h
        rcases h with rfl | rfl | rfl | rfl | rfl
        · exact w1
        · exact w2
        · exact w3
        · exact w4
        · exact hok.2.2.2
      · exact pm_wsM_in hqm w h
end SIM5
end
section
/-! ===== the run as a whole ===== -/
theorem pm_lookup {α : Type} {pc : Nat} {v : α} : ∀ {tab : List (Nat × α)}, tab.lookup pc = some v → (pc, v) ∈ tab
  | [], h => by cases h
  | (k, w) :: r, h => by
    rw [List.lookup_cons] at h
    split at h
    · rename_i hk
      have hk : pc = k := by simpa using hk
      cases h
      subst hk
      exact List.mem_cons_self
    · exact List.mem_cons_of_mem _ (pm_lookup h)
section SIM6
variable {l : Launch} {D : va_G} {cy : Nat → ClassId} {base b : Nat} {sa sv : Nat → Nat} {p : Program} {e : Env} {R : Room} {s : State} {m : MethodId} {args : Array Value} {below : List Frame} {meth : Method} {c : Code} {Q : State → Prop} {z0 d : Nat}
variable {g : Nat → Prop} {C : Nat → List Value → pm_M → Option Value → pm_M → Prop} {q : pm_D} {v0 : Option Value} {m0 : pm_M}
set_option maxHeartbeats 4000000 in
theorem pm_simW (F : pm_fix q D cy sa p s m args meth c) (hdec : ∀ x ∈ q.2.2.2.2.2, decode q.2.2.1 x.1 = .ok x.2) (hRm : pm_Rm base m0.1.1 m0.1.2.1 z0 d s R) (hCC : ∀ M as mem v mem', C M as mem v mem' → pm_P g mem mem' ∧ pm_mt l D cy base b sa sv d M as mem v mem')
    (hretI : ∀ (pc : Nat) (v : Int32) (ty : FieldType) (ls : pm_L) (H : Heap) (locs : List Loc) (cells slots : Nat) (Ls : Array Slot), decode q.2.2.1 pc = .ok (.ireturn, 1) → q.2.2.2.2.1 = some ty → narrow ty (.int v) = .int v → v0 = some (.int v) → pm_Rel D cy base b sa sv s z0 q.2.2.2.1 H locs cells slots Ls ls m0 → W p l e R s m args below meth c H locs cells slots Q (F0 m pc Ls [.int v]))
    (hretL : ∀ (pc : Nat) (v : Int64) (ls : pm_L) (H : Heap) (locs : List Loc) (cells slots : Nat) (Ls : Array Slot), decode q.2.2.1 pc = .ok (.lreturn, 1) → q.2.2.2.2.1 = some .long → v0 = some (.long v) → pm_Rel D cy base b sa sv s z0 q.2.2.2.1 H locs cells slots Ls ls m0 → W p l e R s m args below meth c H locs cells slots Q (F0 m pc Ls [.long v]))
    (hretV : ∀ (pc : Nat) (ls : pm_L) (H : Heap) (locs : List Loc) (cells slots : Nat) (Ls : Array Slot), decode q.2.2.1 pc = .ok (.return_, 1) → q.2.2.2.2.1 = none → v0 = none → pm_Rel D cy base b sa sv s z0 q.2.2.2.1 H locs cells slots Ls ls m0 → W p l e R s m args below meth c H locs cells slots Q (F0 m pc Ls [])) :
    ∀ (f pc : Nat) (ls : pm_L) (st : List Value) (mem : pm_M) (H : Heap) (locs : List Loc) (cells slots : Nat) (Ls : Array Slot), pm_run g C (fun r1 m1 => r1 = v0 ∧ m1 = m0) q f pc ls st mem → pm_Rel D cy base b sa sv s z0 q.2.2.2.1 H locs cells slots Ls ls mem → W p l e R s m args below meth c H locs cells slots Q (F0 m pc Ls (st.map (pm_v base b sa))) := by
  intro f
  induction f with
  | zero => intro pc ls st mem H locs cells slots Ls h; exact h.elim
  | succ f ih =>
    intro pc ls st mem H locs cells slots Ls h hR
    obtain ⟨ins, len, hat, hlk, h⟩ := h
    have hdg := hdec _ (pm_lookup hat)
    dsimp only at hdg
    have hK : pm_KW l D cy base b sa sv p e R s m args below meth c Q z0 q.2.2.2.1 (fun pc' ls' st' mem' => pm_run g C (fun r1 m1 => r1 = v0 ∧ m1 = m0) q f pc' ls' st' mem') := fun pc ls st mem H locs cells slots Ls hk hR => ih pc ls st mem H locs cells slots Ls hk hR
    have hKb : ∀ pc ls st mem, pm_run g C (fun r1 m1 => r1 = v0 ∧ m1 = m0) q f pc ls st mem → mem.1.1 ≤ m0.1.1 ∧ mem.1.2.1 ≤ m0.1.2.1 := fun pc ls st mem hk => by
      have hp := pm_run_pres (fun M as mem v mem' hc => (hCC M as mem v mem' hc).1) (fun r m1 h => h.2) f pc ls st mem hk
      exact ⟨hp.1, hp.2.1⟩
    cases ins with
    | iconst i =>
      have hlk : len = 1 := hlk
      subst hlk
      exact sm_iconst F hK h hR hdg
    | bipush i =>
      have hlk : len = 2 := hlk
      subst hlk
      exact sm_bipush F hK h hR hdg
    | sipush i =>
      have hlk : len = 3 := hlk
      subst hlk
      exact sm_sipush F hK h hR hdg
    | lconst i =>
      have hlk : len = 1 := hlk
      subst hlk
      exact sm_lconst F hK h hR hdg
    | ldc i =>
      have hlk : len = 2 := hlk
      subst hlk
      exact sm_ldc F hK h hR hdg
    | ldc_w i =>
      have hlk : len = 3 := hlk
      subst hlk
      exact sm_ldc_w F hK h hR hdg
    | ldc2_w i =>
      have hlk : len = 3 := hlk
      subst hlk
      exact sm_ldc2_w F hK h hR hdg
    | iload_n i =>
      have hlk : len = 1 := hlk
      subst hlk
      exact sm_iload_n F hK h hR hdg
    | iload i =>
      have hlk : len = 2 := hlk
      subst hlk
      exact sm_iload F hK h hR hdg
    | lload_n i =>
      have hlk : len = 1 := hlk
      subst hlk
      exact sm_lload_n F hK h hR hdg
    | lload i =>
      have hlk : len = 2 := hlk
      subst hlk
      exact sm_lload F hK h hR hdg
    | aload_n i =>
      have hlk : len = 1 := hlk
      subst hlk
      exact sm_aload_n F hK h hR hdg
    | aload i =>
      have hlk : len = 2 := hlk
      subst hlk
      exact sm_aload F hK h hR hdg
    | istore_n i =>
      have hlk : len = 1 := hlk
      subst hlk
      exact sm_istore_n F hK h hR hdg
    | istore i =>
      have hlk : len = 2 := hlk
      subst hlk
      exact sm_istore F hK h hR hdg
    | astore_n i =>
      have hlk : len = 1 := hlk
      subst hlk
      exact sm_astore_n F hK h hR hdg
    | astore i =>
      have hlk : len = 2 := hlk
      subst hlk
      exact sm_astore F hK h hR hdg
    | lstore_n i =>
      have hlk : len = 1 := hlk
      subst hlk
      exact sm_lstore_n F hK h hR hdg
    | lstore i =>
      have hlk : len = 2 := hlk
      subst hlk
      exact sm_lstore F hK h hR hdg
    | iinc i k =>
      have hlk : len = 3 := hlk
      subst hlk
      exact sm_iinc F hK h hR hdg
    | goto off =>
      have hlk : len = 3 := hlk
      subst hlk
      exact sm_goto F hK h hR hdg
    | ifCond k off =>
      have hlk : len = 3 := hlk
      subst hlk
      exact sm_ifCond F hK h hR hdg
    | if_icmp k off =>
      have hlk : len = 3 := hlk
      subst hlk
      exact sm_if_icmp F hK h hR hdg
    | getfield i =>
      have hlk : len = 3 := hlk
      subst hlk
      exact sm_getfield F hK h hR hdg
    | putfield i =>
      have hlk : len = 3 := hlk
      subst hlk
      exact sm_putfield F hK h hR hdg
    | iadd =>
      have hlk : len = 1 := hlk
      subst hlk
      exact sm_iadd F hK h hR hdg
    | isub =>
      have hlk : len = 1 := hlk
      subst hlk
      exact sm_isub F hK h hR hdg
    | imul =>
      have hlk : len = 1 := hlk
      subst hlk
      exact sm_imul F hK h hR hdg
    | iand =>
      have hlk : len = 1 := hlk
      subst hlk
      exact sm_iand F hK h hR hdg
    | ior =>
      have hlk : len = 1 := hlk
      subst hlk
      exact sm_ior F hK h hR hdg
    | ixor =>
      have hlk : len = 1 := hlk
      subst hlk
      exact sm_ixor F hK h hR hdg
    | ishl =>
      have hlk : len = 1 := hlk
      subst hlk
      exact sm_ishl F hK h hR hdg
    | ishr =>
      have hlk : len = 1 := hlk
      subst hlk
      exact sm_ishr F hK h hR hdg
    | iushr =>
      have hlk : len = 1 := hlk
      subst hlk
      exact sm_iushr F hK h hR hdg
    | ladd =>
      have hlk : len = 1 := hlk
      subst hlk
      exact sm_ladd F hK h hR hdg
    | lmul =>
      have hlk : len = 1 := hlk
      subst hlk
      exact sm_lmul F hK h hR hdg
    | idiv =>
      have hlk : len = 1 := hlk
      subst hlk
      exact sm_idiv F hK h hR hdg
    | irem =>
      have hlk : len = 1 := hlk
      subst hlk
      exact sm_irem F hK h hR hdg
    | ldiv =>
      have hlk : len = 1 := hlk
      subst hlk
      exact sm_ldiv F hK h hR hdg
    | lrem =>
      have hlk : len = 1 := hlk
      subst hlk
      exact sm_lrem F hK h hR hdg
    | lcmp =>
      have hlk : len = 1 := hlk
      subst hlk
      exact sm_lcmp F hK h hR hdg
    | i2l =>
      have hlk : len = 1 := hlk
      subst hlk
      exact sm_i2l F hK h hR hdg
    | l2i =>
      have hlk : len = 1 := hlk
      subst hlk
      exact sm_l2i F hK h hR hdg
    | i2b =>
      have hlk : len = 1 := hlk
      subst hlk
      exact sm_i2b F hK h hR hdg
    | ineg =>
      have hlk : len = 1 := hlk
      subst hlk
      exact sm_ineg F hK h hR hdg
    | dup =>
      have hlk : len = 1 := hlk
      subst hlk
      exact sm_dup F hK h hR hdg
    | dup2 =>
      have hlk : len = 1 := hlk
      subst hlk
      exact sm_dup2 F hK h hR hdg
    | pop =>
      have hlk : len = 1 := hlk
      subst hlk
      exact sm_pop F hK h hR hdg
    | iaload =>
      have hlk : len = 1 := hlk
      subst hlk
      exact sm_iaload F hK h hR hdg
    | baload =>
      have hlk : len = 1 := hlk
      subst hlk
      exact sm_baload F hK h hR hdg
    | aaload =>
      have hlk : len = 1 := hlk
      subst hlk
      exact sm_aaload F hK h hR hdg
    | iastore =>
      have hlk : len = 1 := hlk
      subst hlk
      exact sm_iastore F hK h hR hdg
    | bastore =>
      have hlk : len = 1 := hlk
      subst hlk
      exact sm_bastore F hK h hR hdg
    | aastore =>
      have hlk : len = 1 := hlk
      subst hlk
      exact sm_aastore F hK h hR hdg
    | arraylength =>
      have hlk : len = 1 := hlk
      subst hlk
      exact sm_arraylength F hK h hR hdg
    | tableswitch dflt lo hi offs =>
      exact sm_table F hK h hR hdg
    | lookupswitch dflt ps =>
      exact sm_lookup F hK h hR hdg
    | new i =>
      have hlk : len = 3 := hlk
      subst hlk
      exact sm_new F hK hKb hRm h hR hdg
    | newarray t =>
      have hlk : len = 2 := hlk
      subst hlk
      exact sm_newarray F hK hKb hRm h hR hdg
    | anewarray i =>
      have hlk : len = 3 := hlk
      subst hlk
      exact sm_anewarray F hK hKb hRm h hR hdg
    | multianewarray i dd =>
      have hlk : len = 4 := hlk
      subst hlk
      exact sm_mnew F hK hKb hRm h hR hdg
    | ireturn =>
      have hlk : len = 1 := hlk
      subst hlk
      obtain ⟨v, ty, rfl, hr, hn, hv, rfl⟩ := h
      exact hretI pc v ty ls H locs cells slots Ls hdg hr hn hv.symm hR
    | lreturn =>
      have hlk : len = 1 := hlk
      subst hlk
      obtain ⟨v, rfl, hr, hv, rfl⟩ := h
      exact hretL pc v ls H locs cells slots Ls hdg hr hv.symm hR
    | return_ =>
      have hlk : len = 1 := hlk
      subst hlk
      obtain ⟨rfl, hr, hv, rfl⟩ := h
      exact hretV pc ls H locs cells slots Ls hdg hr hv.symm hR
    | invokestatic i =>
      have hlk : len = 3 := hlk
      subst hlk
      rcases h with h | h | h
      · exact sm_calls F hK hKb hRm hCC hR hdg h
      · exact sm_acopy F hK hRm hR hdg h
      · exact sm_math F hK hKb hRm hR hdg h
    | invokevirtual i =>
      have hlk : len = 3 := hlk
      subst hlk
      exact sm_callv F hK hKb hRm hCC hR hdg h
    | invokespecial i =>
      have hlk : len = 3 := hlk
      subst hlk
      rcases h with h | h
      · exact sm_callp F hK hKb hRm hCC hR hdg h
      · exact sm_objInit F hK hRm hR hdg h
    | _ => exact absurd h id
end SIM6
theorem pm_sl_len {base b : Nat} {sa : Nat → Nat} : ∀ as : List Value, (lg_sl (as.map (pm_v base b sa))).length = (pm_sl as).length
  | [] => rfl
  | v :: r => by
    have ih := pm_sl_len (base := base) (b := b) (sa := sa) r
    have e : lg_sl ((v :: r).map (pm_v base b sa)) = (if (pm_v base b sa v).category = 2 then [Slot.val (pm_v base b sa v), Slot.second] else [Slot.val (pm_v base b sa v)]) ++ lg_sl (r.map (pm_v base b sa)) := by simp [lg_sl, List.flatMap_cons]
    rw [e, List.length_append, ih]
    cases v <;> simp [pm_v, pm_sl, Value.category] <;> omega
theorem pm_sl_in {base b : Nat} {sa : Nat → Nat} : ∀ (as : List Value) (o i : Nat) (v : Value), (pm_sl as)[i]? = some (some v) → (o + i, pm_v base b sa v) ∈ lv_args o (as.map (pm_v base b sa))
  | [], o, i, v, h => by simp [pm_sl] at h
  | w :: r, o, i, v, h => by
    have ih := pm_sl_in (base := base) (b := b) (sa := sa) r
    cases w with
    | long x =>
      match i, h with
      | 0, h => cases h; simp [lv_args, pm_v]
      | 1, h => simp [pm_sl] at h
      | i + 2, h =>
        have h2 := ih (o + 2) i v (by simpa [pm_sl] using h)
        rw [show o + (i + 2) = o + 2 + i by omega]
        exact List.mem_cons_of_mem _ h2
    | double x =>
      match i, h with
      | 0, h => cases h; simp [lv_args, pm_v]
      | 1, h => simp [pm_sl] at h
      | i + 2, h =>
        have h2 := ih (o + 2) i v (by simpa [pm_sl] using h)
        rw [show o + (i + 2) = o + 2 + i by omega]
        exact List.mem_cons_of_mem _ h2
    | _ =>
      match i, h with
      | 0, h => cases h; simp [lv_args, pm_v]
      | i + 1, h =>
        have h2 := ih (o + 1) i v (by simpa [pm_sl] using h)
        rw [show o + (i + 1) = o + 1 + i by omega]
        exact List.mem_cons_of_mem _ h2
theorem pm_en_lh {base b : Nat} {sa : Nat → Nat} {as : List Value} {n : Nat} {Ls : Array Slot} (h : lv_has Ls n (lv_args 0 (as.map (pm_v base b sa)))) : pm_lh base b sa Ls n (pm_en as n) := by
  refine ⟨h.1, h.2.1, fun i v hi => ?_⟩
  unfold pm_en at hi
  rw [List.getElem?_append] at hi
  split at hi
  · have h2 := pm_sl_in (base := base) (b := b) (sa := sa) as 0 i v hi
    rw [Nat.zero_add] at h2
    exact h.2.2 _ h2
  · rw [List.getElem?_replicate] at hi
    split at hi <;> cases hi
/-- isWord, taken by what it does: owed -/
def pm_BI (l : Launch) (D : va_G) (cy : Nat → ClassId) (base b : Nat) (sa sv : Nat → Nat) : Prop := ∀ (d M : Nat) (as : List Value) (mem : pm_M) (v : Option Value) (mem' : pm_M), 7 ≤ d → pm_bi M as mem v mem' → pm_mt l D cy base b sa sv (d + 1) M as mem v mem'
set_option maxHeartbeats 4000000 in
theorem pm_sim {l : Launch} {D : va_G} {cy : Nat → ClassId} {base b : Nat} {sa sv : Nat → Nat} {g : Nat → Prop} (hBI : pm_BI l D cy base b sa sv) : ∀ (d M : Nat) (as : List Value) (mem : pm_M) (v : Option Value) (mem' : pm_M), pm_ev g d M as mem v mem' → pm_P g mem mem' ∧ pm_mt l D cy base b sa sv d M as mem v mem' := by
  intro d
  induction d with
  | zero => intro M as mem v mem' h; exact h.elim
  | succ d ih =>
    intro M as mem v mem' h
    have hPP := pm_ev_pres (d + 1) M as mem v mem' h
    refine ⟨hPP, ?_⟩
    rcases h with ⟨hd, h⟩ | ⟨q, hq, hlen, f, h⟩
    · exact hBI d M as mem v mem' hd h
    · intro q' hq' hpl
      cases hq.symm.trans hq'
      have hqm : q ∈ pm_all := List.mem_of_getElem? hq
      obtain ⟨hcode, hdec, hcn, hini⟩ := k_all_ok q hqm
      refine Met.ofW (cc := q.2.2.1) (maxL := q.2.2.2.1) (ret := q.2.2.2.2.1) hpl rfl ?_
      intro p e s m args below meth c s₁ B hml hv
      obtain ⟨rfl, hG, hKs, hsz⟩ := hv
      have hx := B.exec
      have hb := B.bytes
      have hr := B.returns
      have hts0 := atoms_spec (ws := pm_wsM q) B.pre
      have hts : ∀ w ∈ pm_tbl, w.before (as.map (pm_v base b sa)).toArray s = true := fun w hw => hts0 w (List.mem_cons_of_mem _ hw)
      have hown : s.vm.findClass (k_cn q.2.1) = some m.cls := by rw [← hcn]; exact findClass_of_methodNamed B.named
      have hlocks := B.notSynchronized
      have hnm : meth.name = q.1.name := (name_of_methodNamed B.named B.method).1
      have hl := lv_entry (as.map (pm_v base b sa)) (n := q.2.2.2.1) (by rw [pm_sl_len]; exact hlen)
      rw [lg_entry_eq]
      generalize (lg_sl (as.map (pm_v base b sa)) ++ List.replicate (q.2.2.2.1 - (lg_sl (as.map (pm_v base b sa))).length) Slot.unset).toArray = Ls at hl ⊢
      have F : pm_fix q D cy sa p s m (as.map (pm_v base b sa)).toArray meth c := ⟨hx, hb, hml, hown, hts, hnm, hKs⟩
      have hwide : ∀ {H : Heap} {locs : List Loc} {cells slots : Nat} {Ls : Array Slot} {ls : pm_L}, pm_Rel D cy base b sa sv s mem.1.2.1 q.2.2.2.1 H locs cells slots Ls ls mem' → cells ≤ mem'.1.1 - mem.1.1 ∧ slots ≤ mem'.1.2.1 - mem.1.2.1 := by
        intro H locs cells slots Ls ls hR
        have h1 := hR.2.2.1.2
        have h2 := hR.2.2.2.1
        omega
      refine pm_simW (g := g) (C := pm_ev g d) (q := q) (v0 := v) (m0 := mem') (z0 := mem.1.2.1) (d := d) F hdec ⟨Nat.le_refl _, by show 1000 * d + 1000 ≤ 1000 * (d + 1); omega, by show base + mem'.1.1 ≤ s.heap.size + (mem'.1.1 - mem.1.1); have := hPP.1; omega, by show mem'.1.2.1 ≤ mem.1.2.1 + (mem'.1.2.1 - mem.1.2.1); omega⟩ ih ?_ ?_ ?_ f 0 (pm_en as q.2.2.2.1) [] mem s.heap [] 0 0 Ls h ⟨hG, va_S.rf, ⟨by omega, by omega⟩, rfl, pm_en_lh hl⟩
      · intro pc v1 ty ls H locs cells slots Ls hdg hty hn hv hR
        have hw := hwide hR
        refine W.widen hw.1 hw.2 ?_
        subst hv
        exact W.zret hx hb (hr.trans hty) hn (fun t ht hW => ⟨rfl, by rw [ht]; exact hR.1.moved hW.alike, hR.2.1.F ht⟩) hR.2.1.2.2 hdg
      · intro pc v1 ls H locs cells slots Ls hdg hty hv hR
        have hw := hwide hR
        refine W.widen hw.1 hw.2 ?_
        subst hv
        exact W.lret hx hb (hr.trans hty) (fun t ht hW => ⟨rfl, by rw [ht]; exact hR.1.moved hW.alike, hR.2.1.F ht⟩) hR.2.1.2.2 hdg
      · intro pc ls H locs cells slots Ls hdg hty hv hR
        have hw := hwide hR
        refine W.widen hw.1 hw.2 ?_
        subst hv
        exact W.vret hx hb (hr.trans hty) (fun t ht hW => ⟨rfl, by rw [ht]; exact hR.1.moved hW.alike, hR.2.1.F ht⟩) hR.2.1.2.2 hdg
end
