-- ===== PART A: goes FIRST, ahead of the names: the tables' words, and 'selects' of the private methods out of them =====
/-- a private method of a class that the tables say can be made, by its rows of tables_1 -/
def lw_okq (q : MethodName × Nat) : Prop := (q.1.cls ≠ "java/lang/invoke/MethodHandle" ∧ q.1.cls ≠ "java/lang/invoke/VarHandle") ∧ Cond.instantiable q.1.cls q.2 ∈ tables_1 ∧ Cond.privateMethod q.1 ∈ tables_1 ∧ Cond.instanceMethod q.1 ∈ tables_1
theorem lw_p0 : lw_okq (⟨"TwoRopes", "putFour", "(II)V"⟩, 14) := ⟨⟨by decide +kernel, by decide +kernel⟩, List.mem_of_getElem? (i := 21) (by decide +kernel), List.mem_of_getElem? (i := 498) (by decide +kernel), List.mem_of_getElem? (i := 499) (by decide +kernel)⟩
theorem lw_p1 : lw_okq (⟨"TwoRopes", "takeTape", "()I"⟩, 14) := ⟨⟨by decide +kernel, by decide +kernel⟩, List.mem_of_getElem? (i := 21) (by decide +kernel), List.mem_of_getElem? (i := 510) (by decide +kernel), List.mem_of_getElem? (i := 511) (by decide +kernel)⟩
theorem lw_p2 : lw_okq (⟨"TwoRopes$Reader", "readWord", "()V"⟩, 10) := ⟨⟨by decide +kernel, by decide +kernel⟩, List.mem_of_getElem? (i := 29) (by decide +kernel), List.mem_of_getElem? (i := 528) (by decide +kernel), List.mem_of_getElem? (i := 529) (by decide +kernel)⟩
theorem lw_p3 : lw_okq (⟨"TwoRopes$Reader", "kindOfWord", "()I"⟩, 10) := ⟨⟨by decide +kernel, by decide +kernel⟩, List.mem_of_getElem? (i := 29) (by decide +kernel), List.mem_of_getElem? (i := 532) (by decide +kernel), List.mem_of_getElem? (i := 533) (by decide +kernel)⟩
theorem lw_p4 : lw_okq (⟨"TwoRopes$Reader", "readNumber", "()V"⟩, 10) := ⟨⟨by decide +kernel, by decide +kernel⟩, List.mem_of_getElem? (i := 29) (by decide +kernel), List.mem_of_getElem? (i := 539) (by decide +kernel), List.mem_of_getElem? (i := 540) (by decide +kernel)⟩
theorem lw_p5 : lw_okq (⟨"TwoRopes$Reader", "readSigns", "()V"⟩, 10) := ⟨⟨by decide +kernel, by decide +kernel⟩, List.mem_of_getElem? (i := 29) (by decide +kernel), List.mem_of_getElem? (i := 543) (by decide +kernel), List.mem_of_getElem? (i := 544) (by decide +kernel)⟩
theorem lw_p6 : lw_okq (⟨"TwoRopes$Reader", "readMark", "()V"⟩, 10) := ⟨⟨by decide +kernel, by decide +kernel⟩, List.mem_of_getElem? (i := 29) (by decide +kernel), List.mem_of_getElem? (i := 550) (by decide +kernel), List.mem_of_getElem? (i := 551) (by decide +kernel)⟩
theorem lw_p7 : lw_okq (⟨"TwoRopes$Book", "readHead", "(LTwoRopes$Reader;LTwoRopes$Trick;)Z"⟩, 2) := ⟨⟨by decide +kernel, by decide +kernel⟩, List.mem_of_getElem? (i := 349) (by decide +kernel), List.mem_of_getElem? (i := 558) (by decide +kernel), List.mem_of_getElem? (i := 559) (by decide +kernel)⟩
theorem lw_p8 : lw_okq (⟨"TwoRopes$Book", "readName", "(LTwoRopes$Reader;LTwoRopes$Trick;)Z"⟩, 2) := ⟨⟨by decide +kernel, by decide +kernel⟩, List.mem_of_getElem? (i := 349) (by decide +kernel), List.mem_of_getElem? (i := 570) (by decide +kernel), List.mem_of_getElem? (i := 571) (by decide +kernel)⟩
theorem lw_p9 : lw_okq (⟨"TwoRopes$Book", "readWorth", "(LTwoRopes$Reader;LTwoRopes$Trick;)Z"⟩, 2) := ⟨⟨by decide +kernel, by decide +kernel⟩, List.mem_of_getElem? (i := 349) (by decide +kernel), List.mem_of_getElem? (i := 587) (by decide +kernel), List.mem_of_getElem? (i := 588) (by decide +kernel)⟩
theorem lw_p10 : lw_okq (⟨"TwoRopes$Book", "readSigns", "(LTwoRopes$Reader;LTwoRopes$Trick;)Z"⟩, 2) := ⟨⟨by decide +kernel, by decide +kernel⟩, List.mem_of_getElem? (i := 349) (by decide +kernel), List.mem_of_getElem? (i := 595) (by decide +kernel), List.mem_of_getElem? (i := 596) (by decide +kernel)⟩
theorem lw_p11 : lw_okq (⟨"TwoRopes$Book", "readParts", "(LTwoRopes$Reader;LTwoRopes$Trick;)Z"⟩, 2) := ⟨⟨by decide +kernel, by decide +kernel⟩, List.mem_of_getElem? (i := 349) (by decide +kernel), List.mem_of_getElem? (i := 607) (by decide +kernel), List.mem_of_getElem? (i := 608) (by decide +kernel)⟩
theorem lw_p12 : lw_okq (⟨"TwoRopes$Book", "readModes", "(LTwoRopes$Reader;LTwoRopes$Trick;)Z"⟩, 2) := ⟨⟨by decide +kernel, by decide +kernel⟩, List.mem_of_getElem? (i := 349) (by decide +kernel), List.mem_of_getElem? (i := 611) (by decide +kernel), List.mem_of_getElem? (i := 612) (by decide +kernel)⟩
theorem lw_p13 : lw_okq (⟨"TwoRopes$Book", "readLastBeat", "(LTwoRopes$Reader;LTwoRopes$Trick;II)Z"⟩, 2) := ⟨⟨by decide +kernel, by decide +kernel⟩, List.mem_of_getElem? (i := 349) (by decide +kernel), List.mem_of_getElem? (i := 622) (by decide +kernel), List.mem_of_getElem? (i := 623) (by decide +kernel)⟩
theorem lw_p14 : lw_okq (⟨"TwoRopes$Book", "readTurn", "(LTwoRopes$Reader;LTwoRopes$Trick;)Z"⟩, 2) := ⟨⟨by decide +kernel, by decide +kernel⟩, List.mem_of_getElem? (i := 349) (by decide +kernel), List.mem_of_getElem? (i := 626) (by decide +kernel), List.mem_of_getElem? (i := 627) (by decide +kernel)⟩
theorem lw_p15 : lw_okq (⟨"TwoRopes$Book", "readFrom", "(LTwoRopes$Reader;LTwoRopes$Trick;)Z"⟩, 2) := ⟨⟨by decide +kernel, by decide +kernel⟩, List.mem_of_getElem? (i := 349) (by decide +kernel), List.mem_of_getElem? (i := 630) (by decide +kernel), List.mem_of_getElem? (i := 631) (by decide +kernel)⟩
def lw_privs_1 : List (MethodName × Nat) := [(⟨"TwoRopes", "putFour", "(II)V"⟩, 14), (⟨"TwoRopes", "takeTape", "()I"⟩, 14), (⟨"TwoRopes$Reader", "readWord", "()V"⟩, 10), (⟨"TwoRopes$Reader", "kindOfWord", "()I"⟩, 10), (⟨"TwoRopes$Reader", "readNumber", "()V"⟩, 10), (⟨"TwoRopes$Reader", "readSigns", "()V"⟩, 10), (⟨"TwoRopes$Reader", "readMark", "()V"⟩, 10), (⟨"TwoRopes$Book", "readHead", "(LTwoRopes$Reader;LTwoRopes$Trick;)Z"⟩, 2), (⟨"TwoRopes$Book", "readName", "(LTwoRopes$Reader;LTwoRopes$Trick;)Z"⟩, 2), (⟨"TwoRopes$Book", "readWorth", "(LTwoRopes$Reader;LTwoRopes$Trick;)Z"⟩, 2), (⟨"TwoRopes$Book", "readSigns", "(LTwoRopes$Reader;LTwoRopes$Trick;)Z"⟩, 2), (⟨"TwoRopes$Book", "readParts", "(LTwoRopes$Reader;LTwoRopes$Trick;)Z"⟩, 2), (⟨"TwoRopes$Book", "readModes", "(LTwoRopes$Reader;LTwoRopes$Trick;)Z"⟩, 2), (⟨"TwoRopes$Book", "readLastBeat", "(LTwoRopes$Reader;LTwoRopes$Trick;II)Z"⟩, 2), (⟨"TwoRopes$Book", "readTurn", "(LTwoRopes$Reader;LTwoRopes$Trick;)Z"⟩, 2), (⟨"TwoRopes$Book", "readFrom", "(LTwoRopes$Reader;LTwoRopes$Trick;)Z"⟩, 2)]
theorem lw_r1 : ∀ q ∈ lw_privs_1, lw_okq q := List.forall_mem_cons.mpr ⟨lw_p0, List.forall_mem_cons.mpr ⟨lw_p1, List.forall_mem_cons.mpr ⟨lw_p2, List.forall_mem_cons.mpr ⟨lw_p3, List.forall_mem_cons.mpr ⟨lw_p4, List.forall_mem_cons.mpr ⟨lw_p5, List.forall_mem_cons.mpr ⟨lw_p6, List.forall_mem_cons.mpr ⟨lw_p7, List.forall_mem_cons.mpr ⟨lw_p8, List.forall_mem_cons.mpr ⟨lw_p9, List.forall_mem_cons.mpr ⟨lw_p10, List.forall_mem_cons.mpr ⟨lw_p11, List.forall_mem_cons.mpr ⟨lw_p12, List.forall_mem_cons.mpr ⟨lw_p13, List.forall_mem_cons.mpr ⟨lw_p14, List.forall_mem_cons.mpr ⟨lw_p15, fun _ h => absurd h List.not_mem_nil⟩⟩⟩⟩⟩⟩⟩⟩⟩⟩⟩⟩⟩⟩⟩⟩
theorem lw_p16 : lw_okq (⟨"TwoRopes$Book", "readFacing", "(LTwoRopes$Reader;LTwoRopes$Trick;)Z"⟩, 2) := ⟨⟨by decide +kernel, by decide +kernel⟩, List.mem_of_getElem? (i := 349) (by decide +kernel), List.mem_of_getElem? (i := 634) (by decide +kernel), List.mem_of_getElem? (i := 635) (by decide +kernel)⟩
theorem lw_p17 : lw_okq (⟨"TwoRopes$Book", "readAlone", "(LTwoRopes$Reader;LTwoRopes$Trick;)Z"⟩, 2) := ⟨⟨by decide +kernel, by decide +kernel⟩, List.mem_of_getElem? (i := 349) (by decide +kernel), List.mem_of_getElem? (i := 638) (by decide +kernel), List.mem_of_getElem? (i := 639) (by decide +kernel)⟩
theorem lw_p18 : lw_okq (⟨"TwoRopes$Routine", "readLine", "(LTwoRopes$Reader;LTwoRopes$Book;)Z"⟩, 7) := ⟨⟨by decide +kernel, by decide +kernel⟩, List.mem_of_getElem? (i := 415) (by decide +kernel), List.mem_of_getElem? (i := 661) (by decide +kernel), List.mem_of_getElem? (i := 662) (by decide +kernel)⟩
theorem lw_p19 : lw_okq (⟨"TwoRopes$Routine", "readAct", "(LTwoRopes$Reader;LTwoRopes$Book;)Z"⟩, 7) := ⟨⟨by decide +kernel, by decide +kernel⟩, List.mem_of_getElem? (i := 415) (by decide +kernel), List.mem_of_getElem? (i := 665) (by decide +kernel), List.mem_of_getElem? (i := 666) (by decide +kernel)⟩
theorem lw_p20 : lw_okq (⟨"TwoRopes$Routine", "readSide", "(LTwoRopes$Reader;)Z"⟩, 7) := ⟨⟨by decide +kernel, by decide +kernel⟩, List.mem_of_getElem? (i := 415) (by decide +kernel), List.mem_of_getElem? (i := 669) (by decide +kernel), List.mem_of_getElem? (i := 670) (by decide +kernel)⟩
theorem lw_p21 : lw_okq (⟨"TwoRopes$Routine", "readTrick", "(LTwoRopes$Reader;LTwoRopes$Book;)Z"⟩, 7) := ⟨⟨by decide +kernel, by decide +kernel⟩, List.mem_of_getElem? (i := 415) (by decide +kernel), List.mem_of_getElem? (i := 674) (by decide +kernel), List.mem_of_getElem? (i := 675) (by decide +kernel)⟩
theorem lw_p22 : lw_okq (⟨"TwoRopes$Yard", "setUp", "()V"⟩, 6) := ⟨⟨by decide +kernel, by decide +kernel⟩, List.mem_of_getElem? (i := 130) (by decide +kernel), List.mem_of_getElem? (i := 742) (by decide +kernel), List.mem_of_getElem? (i := 743) (by decide +kernel)⟩
theorem lw_p23 : lw_okq (⟨"TwoRopes$Yard", "followLine", "(LTwoRopes$Book;LTwoRopes$Routine;I)V"⟩, 6) := ⟨⟨by decide +kernel, by decide +kernel⟩, List.mem_of_getElem? (i := 130) (by decide +kernel), List.mem_of_getElem? (i := 760) (by decide +kernel), List.mem_of_getElem? (i := 761) (by decide +kernel)⟩
theorem lw_p24 : lw_okq (⟨"TwoRopes$Yard", "comeIn", "(LTwoRopes$Book;LTwoRopes$Jumper;I)I"⟩, 6) := ⟨⟨by decide +kernel, by decide +kernel⟩, List.mem_of_getElem? (i := 130) (by decide +kernel), List.mem_of_getElem? (i := 767) (by decide +kernel), List.mem_of_getElem? (i := 768) (by decide +kernel)⟩
theorem lw_p25 : lw_okq (⟨"TwoRopes$Yard", "countIn", "()I"⟩, 6) := ⟨⟨by decide +kernel, by decide +kernel⟩, List.mem_of_getElem? (i := 130) (by decide +kernel), List.mem_of_getElem? (i := 771) (by decide +kernel), List.mem_of_getElem? (i := 772) (by decide +kernel)⟩
theorem lw_p26 : lw_okq (⟨"TwoRopes$Yard", "loneTrickGoesOn", "(LTwoRopes$Book;)Z"⟩, 6) := ⟨⟨by decide +kernel, by decide +kernel⟩, List.mem_of_getElem? (i := 130) (by decide +kernel), List.mem_of_getElem? (i := 775) (by decide +kernel), List.mem_of_getElem? (i := 776) (by decide +kernel)⟩
theorem lw_p27 : lw_okq (⟨"TwoRopes$Yard", "goOut", "(LTwoRopes$Jumper;I)I"⟩, 6) := ⟨⟨by decide +kernel, by decide +kernel⟩, List.mem_of_getElem? (i := 130) (by decide +kernel), List.mem_of_getElem? (i := 784) (by decide +kernel), List.mem_of_getElem? (i := 785) (by decide +kernel)⟩
theorem lw_p28 : lw_okq (⟨"TwoRopes$Yard", "beginTrick", "(LTwoRopes$Book;LTwoRopes$Jumper;IZI)I"⟩, 6) := ⟨⟨by decide +kernel, by decide +kernel⟩, List.mem_of_getElem? (i := 130) (by decide +kernel), List.mem_of_getElem? (i := 792) (by decide +kernel), List.mem_of_getElem? (i := 793) (by decide +kernel)⟩
theorem lw_p29 : lw_okq (⟨"TwoRopes$Yard", "takeEnd", "(II)I"⟩, 6) := ⟨⟨by decide +kernel, by decide +kernel⟩, List.mem_of_getElem? (i := 130) (by decide +kernel), List.mem_of_getElem? (i := 804) (by decide +kernel), List.mem_of_getElem? (i := 805) (by decide +kernel)⟩
theorem lw_p30 : lw_okq (⟨"TwoRopes$Yard", "stand", "(I)V"⟩, 6) := ⟨⟨by decide +kernel, by decide +kernel⟩, List.mem_of_getElem? (i := 130) (by decide +kernel), List.mem_of_getElem? (i := 812) (by decide +kernel), List.mem_of_getElem? (i := 813) (by decide +kernel)⟩
theorem lw_p31 : lw_okq (⟨"TwoRopes$Yard", "breaks", "(LTwoRopes$Book;I)Z"⟩, 6) := ⟨⟨by decide +kernel, by decide +kernel⟩, List.mem_of_getElem? (i := 130) (by decide +kernel), List.mem_of_getElem? (i := 820) (by decide +kernel), List.mem_of_getElem? (i := 821) (by decide +kernel)⟩
def lw_privs_2 : List (MethodName × Nat) := [(⟨"TwoRopes$Book", "readFacing", "(LTwoRopes$Reader;LTwoRopes$Trick;)Z"⟩, 2), (⟨"TwoRopes$Book", "readAlone", "(LTwoRopes$Reader;LTwoRopes$Trick;)Z"⟩, 2), (⟨"TwoRopes$Routine", "readLine", "(LTwoRopes$Reader;LTwoRopes$Book;)Z"⟩, 7), (⟨"TwoRopes$Routine", "readAct", "(LTwoRopes$Reader;LTwoRopes$Book;)Z"⟩, 7), (⟨"TwoRopes$Routine", "readSide", "(LTwoRopes$Reader;)Z"⟩, 7), (⟨"TwoRopes$Routine", "readTrick", "(LTwoRopes$Reader;LTwoRopes$Book;)Z"⟩, 7), (⟨"TwoRopes$Yard", "setUp", "()V"⟩, 6), (⟨"TwoRopes$Yard", "followLine", "(LTwoRopes$Book;LTwoRopes$Routine;I)V"⟩, 6), (⟨"TwoRopes$Yard", "comeIn", "(LTwoRopes$Book;LTwoRopes$Jumper;I)I"⟩, 6), (⟨"TwoRopes$Yard", "countIn", "()I"⟩, 6), (⟨"TwoRopes$Yard", "loneTrickGoesOn", "(LTwoRopes$Book;)Z"⟩, 6), (⟨"TwoRopes$Yard", "goOut", "(LTwoRopes$Jumper;I)I"⟩, 6), (⟨"TwoRopes$Yard", "beginTrick", "(LTwoRopes$Book;LTwoRopes$Jumper;IZI)I"⟩, 6), (⟨"TwoRopes$Yard", "takeEnd", "(II)I"⟩, 6), (⟨"TwoRopes$Yard", "stand", "(I)V"⟩, 6), (⟨"TwoRopes$Yard", "breaks", "(LTwoRopes$Book;I)Z"⟩, 6)]
theorem lw_r2 : ∀ q ∈ lw_privs_2, lw_okq q := List.forall_mem_cons.mpr ⟨lw_p16, List.forall_mem_cons.mpr ⟨lw_p17, List.forall_mem_cons.mpr ⟨lw_p18, List.forall_mem_cons.mpr ⟨lw_p19, List.forall_mem_cons.mpr ⟨lw_p20, List.forall_mem_cons.mpr ⟨lw_p21, List.forall_mem_cons.mpr ⟨lw_p22, List.forall_mem_cons.mpr ⟨lw_p23, List.forall_mem_cons.mpr ⟨lw_p24, List.forall_mem_cons.mpr ⟨lw_p25, List.forall_mem_cons.mpr ⟨lw_p26, List.forall_mem_cons.mpr ⟨lw_p27, List.forall_mem_cons.mpr ⟨lw_p28, List.forall_mem_cons.mpr ⟨lw_p29, List.forall_mem_cons.mpr ⟨lw_p30, List.forall_mem_cons.mpr ⟨lw_p31, fun _ h => absurd h List.not_mem_nil⟩⟩⟩⟩⟩⟩⟩⟩⟩⟩⟩⟩⟩⟩⟩⟩
theorem lw_p32 : lw_okq (⟨"TwoRopes$Yard", "leastInTrick", "()I"⟩, 6) := ⟨⟨by decide +kernel, by decide +kernel⟩, List.mem_of_getElem? (i := 130) (by decide +kernel), List.mem_of_getElem? (i := 824) (by decide +kernel), List.mem_of_getElem? (i := 825) (by decide +kernel)⟩
theorem lw_p33 : lw_okq (⟨"TwoRopes$Yard", "wantedMode", "(LTwoRopes$Book;II)I"⟩, 6) := ⟨⟨by decide +kernel, by decide +kernel⟩, List.mem_of_getElem? (i := 130) (by decide +kernel), List.mem_of_getElem? (i := 828) (by decide +kernel), List.mem_of_getElem? (i := 829) (by decide +kernel)⟩
theorem lw_p34 : lw_okq (⟨"TwoRopes$Yard", "step", "(LTwoRopes$Book;I)V"⟩, 6) := ⟨⟨by decide +kernel, by decide +kernel⟩, List.mem_of_getElem? (i := 130) (by decide +kernel), List.mem_of_getElem? (i := 833) (by decide +kernel), List.mem_of_getElem? (i := 834) (by decide +kernel)⟩
theorem lw_p35 : lw_okq (⟨"TwoRopes$Yard", "missByModes", "(LTwoRopes$Book;III)Z"⟩, 6) := ⟨⟨by decide +kernel, by decide +kernel⟩, List.mem_of_getElem? (i := 130) (by decide +kernel), List.mem_of_getElem? (i := 847) (by decide +kernel), List.mem_of_getElem? (i := 848) (by decide +kernel)⟩
theorem lw_p36 : lw_okq (⟨"TwoRopes$Yard", "missByHands", "(II)Z"⟩, 6) := ⟨⟨by decide +kernel, by decide +kernel⟩, List.mem_of_getElem? (i := 130) (by decide +kernel), List.mem_of_getElem? (i := 851) (by decide +kernel), List.mem_of_getElem? (i := 852) (by decide +kernel)⟩
theorem lw_p37 : lw_okq (⟨"TwoRopes$Yard", "missByFeet", "(II)Z"⟩, 6) := ⟨⟨by decide +kernel, by decide +kernel⟩, List.mem_of_getElem? (i := 130) (by decide +kernel), List.mem_of_getElem? (i := 855) (by decide +kernel), List.mem_of_getElem? (i := 856) (by decide +kernel)⟩
theorem lw_p38 : lw_okq (⟨"TwoRopes$Yard", "breakOff", "()V"⟩, 6) := ⟨⟨by decide +kernel, by decide +kernel⟩, List.mem_of_getElem? (i := 130) (by decide +kernel), List.mem_of_getElem? (i := 864) (by decide +kernel), List.mem_of_getElem? (i := 865) (by decide +kernel)⟩
theorem lw_p39 : lw_okq (⟨"TwoRopes$Yard", "endTricks", "(LTwoRopes$Book;I)V"⟩, 6) := ⟨⟨by decide +kernel, by decide +kernel⟩, List.mem_of_getElem? (i := 130) (by decide +kernel), List.mem_of_getElem? (i := 869) (by decide +kernel), List.mem_of_getElem? (i := 870) (by decide +kernel)⟩
theorem lw_p40 : lw_okq (⟨"TwoRopes$Log", "gainOf", "(II)I"⟩, 11) := ⟨⟨by decide +kernel, by decide +kernel⟩, List.mem_of_getElem? (i := 136) (by decide +kernel), List.mem_of_getElem? (i := 877) (by decide +kernel), List.mem_of_getElem? (i := 878) (by decide +kernel)⟩
theorem lw_p41 : lw_okq (⟨"TwoRopes$Yard", "changeHands", "()V"⟩, 6) := ⟨⟨by decide +kernel, by decide +kernel⟩, List.mem_of_getElem? (i := 130) (by decide +kernel), List.mem_of_getElem? (i := 882) (by decide +kernel), List.mem_of_getElem? (i := 883) (by decide +kernel)⟩
theorem lw_p42 : lw_okq (⟨"TwoRopes$Log", "hasBeat", "(I)Z"⟩, 11) := ⟨⟨by decide +kernel, by decide +kernel⟩, List.mem_of_getElem? (i := 136) (by decide +kernel), List.mem_of_getElem? (i := 914) (by decide +kernel), List.mem_of_getElem? (i := 915) (by decide +kernel)⟩
theorem lw_p43 : lw_okq (⟨"TwoRopes$Joiner", "prepare", "(LTwoRopes$Book;)V"⟩, 11) := ⟨⟨by decide +kernel, by decide +kernel⟩, List.mem_of_getElem? (i := 248) (by decide +kernel), List.mem_of_getElem? (i := 946) (by decide +kernel), List.mem_of_getElem? (i := 947) (by decide +kernel)⟩
theorem lw_p44 : lw_okq (⟨"TwoRopes$Joiner", "setWay", "(LTwoRopes$Trick;IZ)V"⟩, 11) := ⟨⟨by decide +kernel, by decide +kernel⟩, List.mem_of_getElem? (i := 248) (by decide +kernel), List.mem_of_getElem? (i := 950) (by decide +kernel), List.mem_of_getElem? (i := 951) (by decide +kernel)⟩
theorem lw_p45 : lw_okq (⟨"TwoRopes$Joiner", "sumUp", "(LTwoRopes$Book;II)V"⟩, 11) := ⟨⟨by decide +kernel, by decide +kernel⟩, List.mem_of_getElem? (i := 248) (by decide +kernel), List.mem_of_getElem? (i := 958) (by decide +kernel), List.mem_of_getElem? (i := 959) (by decide +kernel)⟩
theorem lw_p46 : lw_okq (⟨"TwoRopes$Joiner", "keepStands", "(II)V"⟩, 11) := ⟨⟨by decide +kernel, by decide +kernel⟩, List.mem_of_getElem? (i := 248) (by decide +kernel), List.mem_of_getElem? (i := 969) (by decide +kernel), List.mem_of_getElem? (i := 970) (by decide +kernel)⟩
theorem lw_p47 : lw_okq (⟨"TwoRopes$Joiner", "standsFor", "(II)I"⟩, 11) := ⟨⟨by decide +kernel, by decide +kernel⟩, List.mem_of_getElem? (i := 248) (by decide +kernel), List.mem_of_getElem? (i := 975) (by decide +kernel), List.mem_of_getElem? (i := 976) (by decide +kernel)⟩
def lw_privs_3 : List (MethodName × Nat) := [(⟨"TwoRopes$Yard", "leastInTrick", "()I"⟩, 6), (⟨"TwoRopes$Yard", "wantedMode", "(LTwoRopes$Book;II)I"⟩, 6), (⟨"TwoRopes$Yard", "step", "(LTwoRopes$Book;I)V"⟩, 6), (⟨"TwoRopes$Yard", "missByModes", "(LTwoRopes$Book;III)Z"⟩, 6), (⟨"TwoRopes$Yard", "missByHands", "(II)Z"⟩, 6), (⟨"TwoRopes$Yard", "missByFeet", "(II)Z"⟩, 6), (⟨"TwoRopes$Yard", "breakOff", "()V"⟩, 6), (⟨"TwoRopes$Yard", "endTricks", "(LTwoRopes$Book;I)V"⟩, 6), (⟨"TwoRopes$Log", "gainOf", "(II)I"⟩, 11), (⟨"TwoRopes$Yard", "changeHands", "()V"⟩, 6), (⟨"TwoRopes$Log", "hasBeat", "(I)Z"⟩, 11), (⟨"TwoRopes$Joiner", "prepare", "(LTwoRopes$Book;)V"⟩, 11), (⟨"TwoRopes$Joiner", "setWay", "(LTwoRopes$Trick;IZ)V"⟩, 11), (⟨"TwoRopes$Joiner", "sumUp", "(LTwoRopes$Book;II)V"⟩, 11), (⟨"TwoRopes$Joiner", "keepStands", "(II)V"⟩, 11), (⟨"TwoRopes$Joiner", "standsFor", "(II)I"⟩, 11)]
theorem lw_r3 : ∀ q ∈ lw_privs_3, lw_okq q := List.forall_mem_cons.mpr ⟨lw_p32, List.forall_mem_cons.mpr ⟨lw_p33, List.forall_mem_cons.mpr ⟨lw_p34, List.forall_mem_cons.mpr ⟨lw_p35, List.forall_mem_cons.mpr ⟨lw_p36, List.forall_mem_cons.mpr ⟨lw_p37, List.forall_mem_cons.mpr ⟨lw_p38, List.forall_mem_cons.mpr ⟨lw_p39, List.forall_mem_cons.mpr ⟨lw_p40, List.forall_mem_cons.mpr ⟨lw_p41, List.forall_mem_cons.mpr ⟨lw_p42, List.forall_mem_cons.mpr ⟨lw_p43, List.forall_mem_cons.mpr ⟨lw_p44, List.forall_mem_cons.mpr ⟨lw_p45, List.forall_mem_cons.mpr ⟨lw_p46, List.forall_mem_cons.mpr ⟨lw_p47, fun _ h => absurd h List.not_mem_nil⟩⟩⟩⟩⟩⟩⟩⟩⟩⟩⟩⟩⟩⟩⟩⟩
theorem lw_p48 : lw_okq (⟨"TwoRopes$Joiner", "standsOf", "(I)I"⟩, 11) := ⟨⟨by decide +kernel, by decide +kernel⟩, List.mem_of_getElem? (i := 248) (by decide +kernel), List.mem_of_getElem? (i := 979) (by decide +kernel), List.mem_of_getElem? (i := 980) (by decide +kernel)⟩
theorem lw_p49 : lw_okq (⟨"TwoRopes$Joiner", "standsAhead", "(II)I"⟩, 11) := ⟨⟨by decide +kernel, by decide +kernel⟩, List.mem_of_getElem? (i := 248) (by decide +kernel), List.mem_of_getElem? (i := 983) (by decide +kernel), List.mem_of_getElem? (i := 984) (by decide +kernel)⟩
theorem lw_p50 : lw_okq (⟨"TwoRopes$Joiner", "bestSet", "(II)I"⟩, 11) := ⟨⟨by decide +kernel, by decide +kernel⟩, List.mem_of_getElem? (i := 248) (by decide +kernel), List.mem_of_getElem? (i := 987) (by decide +kernel), List.mem_of_getElem? (i := 988) (by decide +kernel)⟩
theorem lw_p51 : lw_okq (⟨"TwoRopes$Joiner", "layRow", "(I)V"⟩, 11) := ⟨⟨by decide +kernel, by decide +kernel⟩, List.mem_of_getElem? (i := 248) (by decide +kernel), List.mem_of_getElem? (i := 994) (by decide +kernel), List.mem_of_getElem? (i := 995) (by decide +kernel)⟩
theorem lw_p52 : lw_okq (⟨"TwoRopes$Joiner", "firstWay", "(II)I"⟩, 11) := ⟨⟨by decide +kernel, by decide +kernel⟩, List.mem_of_getElem? (i := 248) (by decide +kernel), List.mem_of_getElem? (i := 998) (by decide +kernel), List.mem_of_getElem? (i := 999) (by decide +kernel)⟩
theorem lw_p53 : lw_okq (⟨"TwoRopes$Joiner", "standBehind", "(II)I"⟩, 11) := ⟨⟨by decide +kernel, by decide +kernel⟩, List.mem_of_getElem? (i := 248) (by decide +kernel), List.mem_of_getElem? (i := 1002) (by decide +kernel), List.mem_of_getElem? (i := 1003) (by decide +kernel)⟩
theorem lw_p54 : lw_okq (⟨"TwoRopes$Rhyme", "beginWord", "()V"⟩, 3) := ⟨⟨by decide +kernel, by decide +kernel⟩, List.mem_of_getElem? (i := 288) (by decide +kernel), List.mem_of_getElem? (i := 1030) (by decide +kernel), List.mem_of_getElem? (i := 1031) (by decide +kernel)⟩
theorem lw_p55 : lw_okq (⟨"TwoRopes$Judges", "keepSign", "(II)V"⟩, 11) := ⟨⟨by decide +kernel, by decide +kernel⟩, List.mem_of_getElem? (i := 307) (by decide +kernel), List.mem_of_getElem? (i := 1063) (by decide +kernel), List.mem_of_getElem? (i := 1064) (by decide +kernel)⟩
theorem lw_p56 : lw_okq (⟨"TwoRopes$Judges", "signOf", "(II)I"⟩, 11) := ⟨⟨by decide +kernel, by decide +kernel⟩, List.mem_of_getElem? (i := 307) (by decide +kernel), List.mem_of_getElem? (i := 1101) (by decide +kernel), List.mem_of_getElem? (i := 1102) (by decide +kernel)⟩
theorem lw_p57 : lw_okq (⟨"TwoRopesModel", "takeTape", "()V"⟩, 86) := ⟨⟨by decide +kernel, by decide +kernel⟩, List.mem_of_getElem? (i := 1137) (by decide +kernel), List.mem_of_getElem? (i := 1407) (by decide +kernel), List.mem_of_getElem? (i := 1408) (by decide +kernel)⟩
theorem lw_p58 : lw_okq (⟨"TwoRopesModel", "next", "()V"⟩, 86) := ⟨⟨by decide +kernel, by decide +kernel⟩, List.mem_of_getElem? (i := 1137) (by decide +kernel), List.mem_of_getElem? (i := 1411) (by decide +kernel), List.mem_of_getElem? (i := 1412) (by decide +kernel)⟩
theorem lw_p59 : lw_okq (⟨"TwoRopesModel", "sign", "(I)I"⟩, 86) := ⟨⟨by decide +kernel, by decide +kernel⟩, List.mem_of_getElem? (i := 1137) (by decide +kernel), List.mem_of_getElem? (i := 1415) (by decide +kernel), List.mem_of_getElem? (i := 1416) (by decide +kernel)⟩
theorem lw_p60 : lw_okq (⟨"TwoRopesModel", "isGood", "()Z"⟩, 86) := ⟨⟨by decide +kernel, by decide +kernel⟩, List.mem_of_getElem? (i := 1137) (by decide +kernel), List.mem_of_getElem? (i := 1454) (by decide +kernel), List.mem_of_getElem? (i := 1455) (by decide +kernel)⟩
theorem lw_p61 : lw_okq (⟨"TwoRopesModel", "readTrick", "()V"⟩, 86) := ⟨⟨by decide +kernel, by decide +kernel⟩, List.mem_of_getElem? (i := 1137) (by decide +kernel), List.mem_of_getElem? (i := 1458) (by decide +kernel), List.mem_of_getElem? (i := 1459) (by decide +kernel)⟩
theorem lw_p62 : lw_okq (⟨"TwoRopesModel", "isWord", "(J)Z"⟩, 86) := ⟨⟨by decide +kernel, by decide +kernel⟩, List.mem_of_getElem? (i := 1137) (by decide +kernel), List.mem_of_getElem? (i := 1462) (by decide +kernel), List.mem_of_getElem? (i := 1463) (by decide +kernel)⟩
theorem lw_p63 : lw_okq (⟨"TwoRopesModel", "wrong", "()V"⟩, 86) := ⟨⟨by decide +kernel, by decide +kernel⟩, List.mem_of_getElem? (i := 1137) (by decide +kernel), List.mem_of_getElem? (i := 1466) (by decide +kernel), List.mem_of_getElem? (i := 1467) (by decide +kernel)⟩
def lw_privs_4 : List (MethodName × Nat) := [(⟨"TwoRopes$Joiner", "standsOf", "(I)I"⟩, 11), (⟨"TwoRopes$Joiner", "standsAhead", "(II)I"⟩, 11), (⟨"TwoRopes$Joiner", "bestSet", "(II)I"⟩, 11), (⟨"TwoRopes$Joiner", "layRow", "(I)V"⟩, 11), (⟨"TwoRopes$Joiner", "firstWay", "(II)I"⟩, 11), (⟨"TwoRopes$Joiner", "standBehind", "(II)I"⟩, 11), (⟨"TwoRopes$Rhyme", "beginWord", "()V"⟩, 3), (⟨"TwoRopes$Judges", "keepSign", "(II)V"⟩, 11), (⟨"TwoRopes$Judges", "signOf", "(II)I"⟩, 11), (⟨"TwoRopesModel", "takeTape", "()V"⟩, 86), (⟨"TwoRopesModel", "next", "()V"⟩, 86), (⟨"TwoRopesModel", "sign", "(I)I"⟩, 86), (⟨"TwoRopesModel", "isGood", "()Z"⟩, 86), (⟨"TwoRopesModel", "readTrick", "()V"⟩, 86), (⟨"TwoRopesModel", "isWord", "(J)Z"⟩, 86), (⟨"TwoRopesModel", "wrong", "()V"⟩, 86)]
theorem lw_r4 : ∀ q ∈ lw_privs_4, lw_okq q := List.forall_mem_cons.mpr ⟨lw_p48, List.forall_mem_cons.mpr ⟨lw_p49, List.forall_mem_cons.mpr ⟨lw_p50, List.forall_mem_cons.mpr ⟨lw_p51, List.forall_mem_cons.mpr ⟨lw_p52, List.forall_mem_cons.mpr ⟨lw_p53, List.forall_mem_cons.mpr ⟨lw_p54, List.forall_mem_cons.mpr ⟨lw_p55, List.forall_mem_cons.mpr ⟨lw_p56, List.forall_mem_cons.mpr ⟨lw_p57, List.forall_mem_cons.mpr ⟨lw_p58, List.forall_mem_cons.mpr ⟨lw_p59, List.forall_mem_cons.mpr ⟨lw_p60, List.forall_mem_cons.mpr ⟨lw_p61, List.forall_mem_cons.mpr ⟨lw_p62, List.forall_mem_cons.mpr ⟨lw_p63, fun _ h => absurd h List.not_mem_nil⟩⟩⟩⟩⟩⟩⟩⟩⟩⟩⟩⟩⟩⟩⟩⟩
theorem lw_p64 : lw_okq (⟨"TwoRopesModel", "fails", "(II)V"⟩, 86) := ⟨⟨by decide +kernel, by decide +kernel⟩, List.mem_of_getElem? (i := 1137) (by decide +kernel), List.mem_of_getElem? (i := 1470) (by decide +kernel), List.mem_of_getElem? (i := 1471) (by decide +kernel)⟩
theorem lw_p65 : lw_okq (⟨"TwoRopesModel", "trickOf", "(IJ)I"⟩, 86) := ⟨⟨by decide +kernel, by decide +kernel⟩, List.mem_of_getElem? (i := 1137) (by decide +kernel), List.mem_of_getElem? (i := 1474) (by decide +kernel), List.mem_of_getElem? (i := 1475) (by decide +kernel)⟩
theorem lw_p66 : lw_okq (⟨"TwoRopesModel", "must", "(Z)V"⟩, 86) := ⟨⟨by decide +kernel, by decide +kernel⟩, List.mem_of_getElem? (i := 1137) (by decide +kernel), List.mem_of_getElem? (i := 1478) (by decide +kernel), List.mem_of_getElem? (i := 1479) (by decide +kernel)⟩
theorem lw_p67 : lw_okq (⟨"TwoRopesModel", "numeral", "(II)I"⟩, 86) := ⟨⟨by decide +kernel, by decide +kernel⟩, List.mem_of_getElem? (i := 1137) (by decide +kernel), List.mem_of_getElem? (i := 1482) (by decide +kernel), List.mem_of_getElem? (i := 1483) (by decide +kernel)⟩
theorem lw_p68 : lw_okq (⟨"TwoRopesModel", "is", "(I)Z"⟩, 86) := ⟨⟨by decide +kernel, by decide +kernel⟩, List.mem_of_getElem? (i := 1137) (by decide +kernel), List.mem_of_getElem? (i := 1486) (by decide +kernel), List.mem_of_getElem? (i := 1487) (by decide +kernel)⟩
theorem lw_p69 : lw_okq (⟨"TwoRopesModel", "readParts", "(I)V"⟩, 86) := ⟨⟨by decide +kernel, by decide +kernel⟩, List.mem_of_getElem? (i := 1137) (by decide +kernel), List.mem_of_getElem? (i := 1490) (by decide +kernel), List.mem_of_getElem? (i := 1491) (by decide +kernel)⟩
theorem lw_p70 : lw_okq (⟨"TwoRopesModel", "ifWord", "(J)Z"⟩, 86) := ⟨⟨by decide +kernel, by decide +kernel⟩, List.mem_of_getElem? (i := 1137) (by decide +kernel), List.mem_of_getElem? (i := 1494) (by decide +kernel), List.mem_of_getElem? (i := 1495) (by decide +kernel)⟩
theorem lw_p71 : lw_okq (⟨"TwoRopesModel", "readBeats", "(II)V"⟩, 86) := ⟨⟨by decide +kernel, by decide +kernel⟩, List.mem_of_getElem? (i := 1137) (by decide +kernel), List.mem_of_getElem? (i := 1498) (by decide +kernel), List.mem_of_getElem? (i := 1499) (by decide +kernel)⟩
theorem lw_p72 : lw_okq (⟨"TwoRopesModel", "isTrick", "(I)Z"⟩, 86) := ⟨⟨by decide +kernel, by decide +kernel⟩, List.mem_of_getElem? (i := 1137) (by decide +kernel), List.mem_of_getElem? (i := 1510) (by decide +kernel), List.mem_of_getElem? (i := 1511) (by decide +kernel)⟩
theorem lw_p73 : lw_okq (⟨"TwoRopesModel", "beats", "(I)I"⟩, 86) := ⟨⟨by decide +kernel, by decide +kernel⟩, List.mem_of_getElem? (i := 1137) (by decide +kernel), List.mem_of_getElem? (i := 1514) (by decide +kernel), List.mem_of_getElem? (i := 1515) (by decide +kernel)⟩
theorem lw_p74 : lw_okq (⟨"TwoRopesModel", "turn", "(IZ)I"⟩, 86) := ⟨⟨by decide +kernel, by decide +kernel⟩, List.mem_of_getElem? (i := 1137) (by decide +kernel), List.mem_of_getElem? (i := 1518) (by decide +kernel), List.mem_of_getElem? (i := 1519) (by decide +kernel)⟩
theorem lw_p75 : lw_okq (⟨"TwoRopesModel", "from", "(IZ)I"⟩, 86) := ⟨⟨by decide +kernel, by decide +kernel⟩, List.mem_of_getElem? (i := 1137) (by decide +kernel), List.mem_of_getElem? (i := 1522) (by decide +kernel), List.mem_of_getElem? (i := 1523) (by decide +kernel)⟩
theorem lw_p76 : lw_okq (⟨"TwoRopesModel", "leaves", "(IZ)I"⟩, 86) := ⟨⟨by decide +kernel, by decide +kernel⟩, List.mem_of_getElem? (i := 1137) (by decide +kernel), List.mem_of_getElem? (i := 1529) (by decide +kernel), List.mem_of_getElem? (i := 1530) (by decide +kernel)⟩
theorem lw_p77 : lw_okq (⟨"TwoRopesModel", "down", "(IZI)I"⟩, 86) := ⟨⟨by decide +kernel, by decide +kernel⟩, List.mem_of_getElem? (i := 1137) (by decide +kernel), List.mem_of_getElem? (i := 1533) (by decide +kernel), List.mem_of_getElem? (i := 1534) (by decide +kernel)⟩
theorem lw_p78 : lw_okq (⟨"TwoRopesModel", "modeOf", "(II)I"⟩, 86) := ⟨⟨by decide +kernel, by decide +kernel⟩, List.mem_of_getElem? (i := 1137) (by decide +kernel), List.mem_of_getElem? (i := 1537) (by decide +kernel), List.mem_of_getElem? (i := 1538) (by decide +kernel)⟩
theorem lw_p79 : lw_okq (⟨"TwoRopesModel", "slipOf", "(I)I"⟩, 86) := ⟨⟨by decide +kernel, by decide +kernel⟩, List.mem_of_getElem? (i := 1137) (by decide +kernel), List.mem_of_getElem? (i := 1545) (by decide +kernel), List.mem_of_getElem? (i := 1546) (by decide +kernel)⟩
def lw_privs_5 : List (MethodName × Nat) := [(⟨"TwoRopesModel", "fails", "(II)V"⟩, 86), (⟨"TwoRopesModel", "trickOf", "(IJ)I"⟩, 86), (⟨"TwoRopesModel", "must", "(Z)V"⟩, 86), (⟨"TwoRopesModel", "numeral", "(II)I"⟩, 86), (⟨"TwoRopesModel", "is", "(I)Z"⟩, 86), (⟨"TwoRopesModel", "readParts", "(I)V"⟩, 86), (⟨"TwoRopesModel", "ifWord", "(J)Z"⟩, 86), (⟨"TwoRopesModel", "readBeats", "(II)V"⟩, 86), (⟨"TwoRopesModel", "isTrick", "(I)Z"⟩, 86), (⟨"TwoRopesModel", "beats", "(I)I"⟩, 86), (⟨"TwoRopesModel", "turn", "(IZ)I"⟩, 86), (⟨"TwoRopesModel", "from", "(IZ)I"⟩, 86), (⟨"TwoRopesModel", "leaves", "(IZ)I"⟩, 86), (⟨"TwoRopesModel", "down", "(IZI)I"⟩, 86), (⟨"TwoRopesModel", "modeOf", "(II)I"⟩, 86), (⟨"TwoRopesModel", "slipOf", "(I)I"⟩, 86)]
theorem lw_r5 : ∀ q ∈ lw_privs_5, lw_okq q := List.forall_mem_cons.mpr ⟨lw_p64, List.forall_mem_cons.mpr ⟨lw_p65, List.forall_mem_cons.mpr ⟨lw_p66, List.forall_mem_cons.mpr ⟨lw_p67, List.forall_mem_cons.mpr ⟨lw_p68, List.forall_mem_cons.mpr ⟨lw_p69, List.forall_mem_cons.mpr ⟨lw_p70, List.forall_mem_cons.mpr ⟨lw_p71, List.forall_mem_cons.mpr ⟨lw_p72, List.forall_mem_cons.mpr ⟨lw_p73, List.forall_mem_cons.mpr ⟨lw_p74, List.forall_mem_cons.mpr ⟨lw_p75, List.forall_mem_cons.mpr ⟨lw_p76, List.forall_mem_cons.mpr ⟨lw_p77, List.forall_mem_cons.mpr ⟨lw_p78, List.forall_mem_cons.mpr ⟨lw_p79, fun _ h => absurd h List.not_mem_nil⟩⟩⟩⟩⟩⟩⟩⟩⟩⟩⟩⟩⟩⟩⟩⟩
theorem lw_p80 : lw_okq (⟨"TwoRopesModel", "readLine", "()V"⟩, 86) := ⟨⟨by decide +kernel, by decide +kernel⟩, List.mem_of_getElem? (i := 1137) (by decide +kernel), List.mem_of_getElem? (i := 1556) (by decide +kernel), List.mem_of_getElem? (i := 1557) (by decide +kernel)⟩
theorem lw_p81 : lw_okq (⟨"TwoRopesModel", "clear", "()V"⟩, 86) := ⟨⟨by decide +kernel, by decide +kernel⟩, List.mem_of_getElem? (i := 1137) (by decide +kernel), List.mem_of_getElem? (i := 1569) (by decide +kernel), List.mem_of_getElem? (i := 1570) (by decide +kernel)⟩
theorem lw_p82 : lw_okq (⟨"TwoRopesModel", "lawOf", "(I)I"⟩, 86) := ⟨⟨by decide +kernel, by decide +kernel⟩, List.mem_of_getElem? (i := 1137) (by decide +kernel), List.mem_of_getElem? (i := 1573) (by decide +kernel), List.mem_of_getElem? (i := 1574) (by decide +kernel)⟩
theorem lw_p83 : lw_okq (⟨"TwoRopesModel", "inMany", "()I"⟩, 86) := ⟨⟨by decide +kernel, by decide +kernel⟩, List.mem_of_getElem? (i := 1137) (by decide +kernel), List.mem_of_getElem? (i := 1577) (by decide +kernel), List.mem_of_getElem? (i := 1578) (by decide +kernel)⟩
theorem lw_p84 : lw_okq (⟨"TwoRopesModel", "isAloneOn", "()Z"⟩, 86) := ⟨⟨by decide +kernel, by decide +kernel⟩, List.mem_of_getElem? (i := 1137) (by decide +kernel), List.mem_of_getElem? (i := 1581) (by decide +kernel), List.mem_of_getElem? (i := 1582) (by decide +kernel)⟩
theorem lw_p85 : lw_okq (⟨"TwoRopesModel", "wrongs", "(II)V"⟩, 86) := ⟨⟨by decide +kernel, by decide +kernel⟩, List.mem_of_getElem? (i := 1137) (by decide +kernel), List.mem_of_getElem? (i := 1585) (by decide +kernel), List.mem_of_getElem? (i := 1586) (by decide +kernel)⟩
theorem lw_p86 : lw_okq (⟨"TwoRopesModel", "act", "(I)V"⟩, 86) := ⟨⟨by decide +kernel, by decide +kernel⟩, List.mem_of_getElem? (i := 1137) (by decide +kernel), List.mem_of_getElem? (i := 1589) (by decide +kernel), List.mem_of_getElem? (i := 1590) (by decide +kernel)⟩
theorem lw_p87 : lw_okq (⟨"TwoRopesModel", "rest", "()V"⟩, 86) := ⟨⟨by decide +kernel, by decide +kernel⟩, List.mem_of_getElem? (i := 1137) (by decide +kernel), List.mem_of_getElem? (i := 1593) (by decide +kernel), List.mem_of_getElem? (i := 1594) (by decide +kernel)⟩
theorem lw_p88 : lw_okq (⟨"TwoRopesModel", "beat", "()V"⟩, 86) := ⟨⟨by decide +kernel, by decide +kernel⟩, List.mem_of_getElem? (i := 1137) (by decide +kernel), List.mem_of_getElem? (i := 1597) (by decide +kernel), List.mem_of_getElem? (i := 1598) (by decide +kernel)⟩
theorem lw_p89 : lw_okq (⟨"TwoRopesModel", "isTorn", "()Z"⟩, 86) := ⟨⟨by decide +kernel, by decide +kernel⟩, List.mem_of_getElem? (i := 1137) (by decide +kernel), List.mem_of_getElem? (i := 1601) (by decide +kernel), List.mem_of_getElem? (i := 1602) (by decide +kernel)⟩
theorem lw_p90 : lw_okq (⟨"TwoRopesModel", "wanted", "(I)I"⟩, 86) := ⟨⟨by decide +kernel, by decide +kernel⟩, List.mem_of_getElem? (i := 1137) (by decide +kernel), List.mem_of_getElem? (i := 1605) (by decide +kernel), List.mem_of_getElem? (i := 1606) (by decide +kernel)⟩
theorem lw_p91 : lw_okq (⟨"TwoRopesModel", "stepAll", "()V"⟩, 86) := ⟨⟨by decide +kernel, by decide +kernel⟩, List.mem_of_getElem? (i := 1137) (by decide +kernel), List.mem_of_getElem? (i := 1609) (by decide +kernel), List.mem_of_getElem? (i := 1610) (by decide +kernel)⟩
theorem lw_p92 : lw_okq (⟨"TwoRopesModel", "isHandsMissed", "()Z"⟩, 86) := ⟨⟨by decide +kernel, by decide +kernel⟩, List.mem_of_getElem? (i := 1137) (by decide +kernel), List.mem_of_getElem? (i := 1613) (by decide +kernel), List.mem_of_getElem? (i := 1614) (by decide +kernel)⟩
theorem lw_p93 : lw_okq (⟨"TwoRopesModel", "isFootMissed", "()Z"⟩, 86) := ⟨⟨by decide +kernel, by decide +kernel⟩, List.mem_of_getElem? (i := 1137) (by decide +kernel), List.mem_of_getElem? (i := 1617) (by decide +kernel), List.mem_of_getElem? (i := 1618) (by decide +kernel)⟩
theorem lw_p94 : lw_okq (⟨"TwoRopesModel", "breakOff", "()V"⟩, 86) := ⟨⟨by decide +kernel, by decide +kernel⟩, List.mem_of_getElem? (i := 1137) (by decide +kernel), List.mem_of_getElem? (i := 1621) (by decide +kernel), List.mem_of_getElem? (i := 1622) (by decide +kernel)⟩
theorem lw_p95 : lw_okq (⟨"TwoRopesModel", "goOn", "()V"⟩, 86) := ⟨⟨by decide +kernel, by decide +kernel⟩, List.mem_of_getElem? (i := 1137) (by decide +kernel), List.mem_of_getElem? (i := 1625) (by decide +kernel), List.mem_of_getElem? (i := 1626) (by decide +kernel)⟩
def lw_privs_6 : List (MethodName × Nat) := [(⟨"TwoRopesModel", "readLine", "()V"⟩, 86), (⟨"TwoRopesModel", "clear", "()V"⟩, 86), (⟨"TwoRopesModel", "lawOf", "(I)I"⟩, 86), (⟨"TwoRopesModel", "inMany", "()I"⟩, 86), (⟨"TwoRopesModel", "isAloneOn", "()Z"⟩, 86), (⟨"TwoRopesModel", "wrongs", "(II)V"⟩, 86), (⟨"TwoRopesModel", "act", "(I)V"⟩, 86), (⟨"TwoRopesModel", "rest", "()V"⟩, 86), (⟨"TwoRopesModel", "beat", "()V"⟩, 86), (⟨"TwoRopesModel", "isTorn", "()Z"⟩, 86), (⟨"TwoRopesModel", "wanted", "(I)I"⟩, 86), (⟨"TwoRopesModel", "stepAll", "()V"⟩, 86), (⟨"TwoRopesModel", "isHandsMissed", "()Z"⟩, 86), (⟨"TwoRopesModel", "isFootMissed", "()Z"⟩, 86), (⟨"TwoRopesModel", "breakOff", "()V"⟩, 86), (⟨"TwoRopesModel", "goOn", "()V"⟩, 86)]
theorem lw_r6 : ∀ q ∈ lw_privs_6, lw_okq q := List.forall_mem_cons.mpr ⟨lw_p80, List.forall_mem_cons.mpr ⟨lw_p81, List.forall_mem_cons.mpr ⟨lw_p82, List.forall_mem_cons.mpr ⟨lw_p83, List.forall_mem_cons.mpr ⟨lw_p84, List.forall_mem_cons.mpr ⟨lw_p85, List.forall_mem_cons.mpr ⟨lw_p86, List.forall_mem_cons.mpr ⟨lw_p87, List.forall_mem_cons.mpr ⟨lw_p88, List.forall_mem_cons.mpr ⟨lw_p89, List.forall_mem_cons.mpr ⟨lw_p90, List.forall_mem_cons.mpr ⟨lw_p91, List.forall_mem_cons.mpr ⟨lw_p92, List.forall_mem_cons.mpr ⟨lw_p93, List.forall_mem_cons.mpr ⟨lw_p94, List.forall_mem_cons.mpr ⟨lw_p95, fun _ h => absurd h List.not_mem_nil⟩⟩⟩⟩⟩⟩⟩⟩⟩⟩⟩⟩⟩⟩⟩⟩
theorem lw_p96 : lw_okq (⟨"TwoRopesModel", "finish", "(I)V"⟩, 86) := ⟨⟨by decide +kernel, by decide +kernel⟩, List.mem_of_getElem? (i := 1137) (by decide +kernel), List.mem_of_getElem? (i := 1629) (by decide +kernel), List.mem_of_getElem? (i := 1630) (by decide +kernel)⟩
theorem lw_p97 : lw_okq (⟨"TwoRopesModel", "changeHands", "()V"⟩, 86) := ⟨⟨by decide +kernel, by decide +kernel⟩, List.mem_of_getElem? (i := 1137) (by decide +kernel), List.mem_of_getElem? (i := 1633) (by decide +kernel), List.mem_of_getElem? (i := 1634) (by decide +kernel)⟩
theorem lw_p98 : lw_okq (⟨"TwoRopesModel", "note", "()V"⟩, 86) := ⟨⟨by decide +kernel, by decide +kernel⟩, List.mem_of_getElem? (i := 1137) (by decide +kernel), List.mem_of_getElem? (i := 1637) (by decide +kernel), List.mem_of_getElem? (i := 1638) (by decide +kernel)⟩
theorem lw_p99 : lw_okq (⟨"TwoRopesModel", "isRanBeat", "(I)Z"⟩, 86) := ⟨⟨by decide +kernel, by decide +kernel⟩, List.mem_of_getElem? (i := 1137) (by decide +kernel), List.mem_of_getElem? (i := 1657) (by decide +kernel), List.mem_of_getElem? (i := 1658) (by decide +kernel)⟩
theorem lw_p100 : lw_okq (⟨"TwoRopesModel", "seek", "(III)Z"⟩, 86) := ⟨⟨by decide +kernel, by decide +kernel⟩, List.mem_of_getElem? (i := 1137) (by decide +kernel), List.mem_of_getElem? (i := 1676) (by decide +kernel), List.mem_of_getElem? (i := 1677) (by decide +kernel)⟩
theorem lw_p101 : lw_okq (⟨"TwoRopesModel", "reckonSets", "()V"⟩, 86) := ⟨⟨by decide +kernel, by decide +kernel⟩, List.mem_of_getElem? (i := 1137) (by decide +kernel), List.mem_of_getElem? (i := 1680) (by decide +kernel), List.mem_of_getElem? (i := 1681) (by decide +kernel)⟩
theorem lw_p102 : lw_okq (⟨"TwoRopesModel", "leads", "(IIIIZ)Z"⟩, 86) := ⟨⟨by decide +kernel, by decide +kernel⟩, List.mem_of_getElem? (i := 1137) (by decide +kernel), List.mem_of_getElem? (i := 1684) (by decide +kernel), List.mem_of_getElem? (i := 1685) (by decide +kernel)⟩
theorem lw_p103 : lw_okq (⟨"TwoRopesModel", "may", "(IZII)Z"⟩, 86) := ⟨⟨by decide +kernel, by decide +kernel⟩, List.mem_of_getElem? (i := 1137) (by decide +kernel), List.mem_of_getElem? (i := 1688) (by decide +kernel), List.mem_of_getElem? (i := 1689) (by decide +kernel)⟩
theorem lw_p104 : lw_okq (⟨"TwoRopesModel", "footBehind", "(IZI)I"⟩, 86) := ⟨⟨by decide +kernel, by decide +kernel⟩, List.mem_of_getElem? (i := 1137) (by decide +kernel), List.mem_of_getElem? (i := 1692) (by decide +kernel), List.mem_of_getElem? (i := 1693) (by decide +kernel)⟩
theorem lw_p105 : lw_okq (⟨"TwoRopesModel", "sumOf", "(IZ)I"⟩, 86) := ⟨⟨by decide +kernel, by decide +kernel⟩, List.mem_of_getElem? (i := 1137) (by decide +kernel), List.mem_of_getElem? (i := 1699) (by decide +kernel), List.mem_of_getElem? (i := 1700) (by decide +kernel)⟩
theorem lw_p106 : lw_okq (⟨"TwoRopesModel", "nextChild", "(II)I"⟩, 86) := ⟨⟨by decide +kernel, by decide +kernel⟩, List.mem_of_getElem? (i := 1137) (by decide +kernel), List.mem_of_getElem? (i := 1722) (by decide +kernel), List.mem_of_getElem? (i := 1723) (by decide +kernel)⟩
theorem lw_p107 : lw_okq (⟨"TwoRopesModel", "seenAt", "(III)I"⟩, 86) := ⟨⟨by decide +kernel, by decide +kernel⟩, List.mem_of_getElem? (i := 1137) (by decide +kernel), List.mem_of_getElem? (i := 1746) (by decide +kernel), List.mem_of_getElem? (i := 1747) (by decide +kernel)⟩
theorem lw_p108 : lw_okq (⟨"TwoRopesModel", "saw", "(IIII)I"⟩, 86) := ⟨⟨by decide +kernel, by decide +kernel⟩, List.mem_of_getElem? (i := 1137) (by decide +kernel), List.mem_of_getElem? (i := 1750) (by decide +kernel), List.mem_of_getElem? (i := 1751) (by decide +kernel)⟩
def lw_privs_7 : List (MethodName × Nat) := [(⟨"TwoRopesModel", "finish", "(I)V"⟩, 86), (⟨"TwoRopesModel", "changeHands", "()V"⟩, 86), (⟨"TwoRopesModel", "note", "()V"⟩, 86), (⟨"TwoRopesModel", "isRanBeat", "(I)Z"⟩, 86), (⟨"TwoRopesModel", "seek", "(III)Z"⟩, 86), (⟨"TwoRopesModel", "reckonSets", "()V"⟩, 86), (⟨"TwoRopesModel", "leads", "(IIIIZ)Z"⟩, 86), (⟨"TwoRopesModel", "may", "(IZII)Z"⟩, 86), (⟨"TwoRopesModel", "footBehind", "(IZI)I"⟩, 86), (⟨"TwoRopesModel", "sumOf", "(IZ)I"⟩, 86), (⟨"TwoRopesModel", "nextChild", "(II)I"⟩, 86), (⟨"TwoRopesModel", "seenAt", "(III)I"⟩, 86), (⟨"TwoRopesModel", "saw", "(IIII)I"⟩, 86)]
theorem lw_r7 : ∀ q ∈ lw_privs_7, lw_okq q := List.forall_mem_cons.mpr ⟨lw_p96, List.forall_mem_cons.mpr ⟨lw_p97, List.forall_mem_cons.mpr ⟨lw_p98, List.forall_mem_cons.mpr ⟨lw_p99, List.forall_mem_cons.mpr ⟨lw_p100, List.forall_mem_cons.mpr ⟨lw_p101, List.forall_mem_cons.mpr ⟨lw_p102, List.forall_mem_cons.mpr ⟨lw_p103, List.forall_mem_cons.mpr ⟨lw_p104, List.forall_mem_cons.mpr ⟨lw_p105, List.forall_mem_cons.mpr ⟨lw_p106, List.forall_mem_cons.mpr ⟨lw_p107, List.forall_mem_cons.mpr ⟨lw_p108, fun _ h => absurd h List.not_mem_nil⟩⟩⟩⟩⟩⟩⟩⟩⟩⟩⟩⟩⟩
def lw_privs : List (MethodName × Nat) := lw_privs_1 ++ (lw_privs_2 ++ (lw_privs_3 ++ (lw_privs_4 ++ (lw_privs_5 ++ (lw_privs_6 ++ (lw_privs_7))))))
def lw_tbl : List Cond := k2_sels lw_privs ++ tables_1
theorem lw_privs_ok : ∀ q ∈ lw_privs, lw_okq q := by
  show ∀ q ∈ lw_privs_1 ++ (lw_privs_2 ++ (lw_privs_3 ++ (lw_privs_4 ++ (lw_privs_5 ++ (lw_privs_6 ++ (lw_privs_7)))))), lw_okq q
  exact List.forall_mem_append.mpr ⟨lw_r1, List.forall_mem_append.mpr ⟨lw_r2, List.forall_mem_append.mpr ⟨lw_r3, List.forall_mem_append.mpr ⟨lw_r4, List.forall_mem_append.mpr ⟨lw_r5, List.forall_mem_append.mpr ⟨lw_r6, lw_r7⟩⟩⟩⟩⟩⟩
def RX0 : String := "TwoRopes$Book"
def TX0 : u_T := fun k => match k with
  | 0 => ("TwoRopes$Book", "list", "[LTwoRopes$Trick;", true)
  | _ => ("TwoRopes$Book", "count", "I", false)
def tyX0 : Nat → FieldType := fun k => match k with
  | 0 => .array (.object "TwoRopes$Trick")
  | _ => .int
abbrev wsX00 : List Cond := u_ws RX0 TX0 2
theorem nmX0 : ∀ a, a < 2 → ∀ b, b < 2 → a ≠ b → (TX0 a).2.1 ≠ (TX0 b).2.1 := by decide +kernel
theorem tyX0_ok : ∀ k, k < 2 → parseFieldDescriptor (TX0 k).2.2.1 = some (tyX0 k) := by decide +kernel
abbrev cX0_init : ByteArray := prog_2_method_1_code
def yX0_init : MethodName := ⟨RX0, "<init>", "()V"⟩
abbrev cX0_has : ByteArray := prog_2_method_2_code
def yX0_has : MethodName := ⟨RX0, "has", "(I)Z"⟩
abbrev cX0_find : ByteArray := prog_2_method_3_code
def yX0_find : MethodName := ⟨RX0, "find", "(J)I"⟩
abbrev cX0_readAll : ByteArray := prog_2_method_4_code
def yX0_readAll : MethodName := ⟨RX0, "readAll", "(LTwoRopes$Reader;)Z"⟩
abbrev cX0_readHead : ByteArray := prog_2_method_5_code
def yX0_readHead : MethodName := ⟨RX0, "readHead", "(LTwoRopes$Reader;LTwoRopes$Trick;)Z"⟩
abbrev cX0_readName : ByteArray := prog_2_method_6_code
def yX0_readName : MethodName := ⟨RX0, "readName", "(LTwoRopes$Reader;LTwoRopes$Trick;)Z"⟩
abbrev cX0_readWorth : ByteArray := prog_2_method_7_code
def yX0_readWorth : MethodName := ⟨RX0, "readWorth", "(LTwoRopes$Reader;LTwoRopes$Trick;)Z"⟩
abbrev cX0_readSigns : ByteArray := prog_2_method_8_code
def yX0_readSigns : MethodName := ⟨RX0, "readSigns", "(LTwoRopes$Reader;LTwoRopes$Trick;)Z"⟩
abbrev cX0_readParts : ByteArray := prog_2_method_9_code
def yX0_readParts : MethodName := ⟨RX0, "readParts", "(LTwoRopes$Reader;LTwoRopes$Trick;)Z"⟩
abbrev cX0_readModes : ByteArray := prog_2_method_10_code
def yX0_readModes : MethodName := ⟨RX0, "readModes", "(LTwoRopes$Reader;LTwoRopes$Trick;)Z"⟩
abbrev cX0_readLastBeat : ByteArray := prog_2_method_11_code
def yX0_readLastBeat : MethodName := ⟨RX0, "readLastBeat", "(LTwoRopes$Reader;LTwoRopes$Trick;II)Z"⟩
abbrev cX0_readTurn : ByteArray := prog_2_method_12_code
def yX0_readTurn : MethodName := ⟨RX0, "readTurn", "(LTwoRopes$Reader;LTwoRopes$Trick;)Z"⟩
abbrev cX0_readFrom : ByteArray := prog_2_method_13_code
def yX0_readFrom : MethodName := ⟨RX0, "readFrom", "(LTwoRopes$Reader;LTwoRopes$Trick;)Z"⟩
abbrev cX0_readFacing : ByteArray := prog_2_method_14_code
def yX0_readFacing : MethodName := ⟨RX0, "readFacing", "(LTwoRopes$Reader;LTwoRopes$Trick;)Z"⟩
abbrev cX0_readAlone : ByteArray := prog_2_method_15_code
def yX0_readAlone : MethodName := ⟨RX0, "readAlone", "(LTwoRopes$Reader;LTwoRopes$Trick;)Z"⟩
def RX1 : String := "TwoRopes$Joiner"
def TX1 : u_T := fun k => match k with
  | 0 => ("TwoRopes$Joiner", "begins", "[J", true)
  | 1 => ("TwoRopes$Joiner", "worths", "[I", true)
  | 2 => ("TwoRopes$Joiner", "lengths", "[I", true)
  | 3 => ("TwoRopes$Joiner", "wants", "[I", true)
  | 4 => ("TwoRopes$Joiner", "leaves", "[I", true)
  | 5 => ("TwoRopes$Joiner", "turns", "[I", true)
  | 6 => ("TwoRopes$Joiner", "row", "[I", true)
  | 7 => ("TwoRopes$Joiner", "rowLength", "I", false)
  | 8 => ("TwoRopes$Joiner", "rowSet", "I", false)
  | 9 => ("TwoRopes$Joiner", "rowAsked", "I", false)
  | _ => ("TwoRopes$Joiner", "sets", "I", false)
def tyX1 : Nat → FieldType := fun k => match k with
  | 0 => .array .long
  | 1 => .array .int
  | 2 => .array .int
  | 3 => .array .int
  | 4 => .array .int
  | 5 => .array .int
  | 6 => .array .int
  | 7 => .int
  | 8 => .int
  | 9 => .int
  | _ => .int
abbrev wsX10 : List Cond := u_ws RX1 TX1 11
theorem nmX1 : ∀ a, a < 11 → ∀ b, b < 11 → a ≠ b → (TX1 a).2.1 ≠ (TX1 b).2.1 := by decide +kernel
theorem tyX1_ok : ∀ k, k < 11 → parseFieldDescriptor (TX1 k).2.2.1 = some (tyX1 k) := by decide +kernel
abbrev cX1_init : ByteArray := prog_3_method_1_code
def yX1_init : MethodName := ⟨RX1, "<init>", "()V"⟩
abbrev cX1_forget : ByteArray := prog_3_method_2_code
def yX1_forget : MethodName := ⟨RX1, "forget", "()V"⟩
abbrev cX1_worthOfRow : ByteArray := prog_3_method_3_code
def yX1_worthOfRow : MethodName := ⟨RX1, "worthOfRow", "()I"⟩
abbrev cX1_sumOf : ByteArray := prog_3_method_4_code
def yX1_sumOf : MethodName := ⟨RX1, "sumOf", "([II)I"⟩
abbrev cX1_standsOf : ByteArray := prog_3_method_5_code
def yX1_standsOf : MethodName := ⟨RX1, "standsOf", "(I)I"⟩
abbrev cX1_keepStands : ByteArray := prog_3_method_6_code
def yX1_keepStands : MethodName := ⟨RX1, "keepStands", "(II)V"⟩
abbrev cX1_tellPlace : ByteArray := prog_3_method_7_code
def yX1_tellPlace : MethodName := ⟨RX1, "tellPlace", "(II)I"⟩
abbrev cX1_choose : ByteArray := prog_3_method_8_code
def yX1_choose : MethodName := ⟨RX1, "choose", "(LTwoRopes$Book;III)V"⟩
abbrev cX1_prepare : ByteArray := prog_3_method_9_code
def yX1_prepare : MethodName := ⟨RX1, "prepare", "(LTwoRopes$Book;)V"⟩
abbrev cX1_sumUp : ByteArray := prog_3_method_10_code
def yX1_sumUp : MethodName := ⟨RX1, "sumUp", "(LTwoRopes$Book;II)V"⟩
abbrev cX1_setWay : ByteArray := prog_3_method_11_code
def yX1_setWay : MethodName := ⟨RX1, "setWay", "(LTwoRopes$Trick;IZ)V"⟩
abbrev cX1_standsFor : ByteArray := prog_3_method_12_code
def yX1_standsFor : MethodName := ⟨RX1, "standsFor", "(II)I"⟩
abbrev cX1_standsAhead : ByteArray := prog_3_method_13_code
def yX1_standsAhead : MethodName := ⟨RX1, "standsAhead", "(II)I"⟩
abbrev cX1_standBehind : ByteArray := prog_3_method_14_code
def yX1_standBehind : MethodName := ⟨RX1, "standBehind", "(II)I"⟩
abbrev cX1_bestSet : ByteArray := prog_3_method_15_code
def yX1_bestSet : MethodName := ⟨RX1, "bestSet", "(II)I"⟩
abbrev cX1_layRow : ByteArray := prog_3_method_16_code
def yX1_layRow : MethodName := ⟨RX1, "layRow", "(I)V"⟩
abbrev cX1_firstWay : ByteArray := prog_3_method_17_code
def yX1_firstWay : MethodName := ⟨RX1, "firstWay", "(II)I"⟩
def RX2 : String := "TwoRopes$Judges"
def TX2 : u_T := fun k => match k with
  | 0 => ("TwoRopes$Judges", "signs", "[J", true)
  | 1 => ("TwoRopes$Judges", "judgeOf", "[I", true)
  | 2 => ("TwoRopes$Judges", "personOf", "[I", true)
  | 3 => ("TwoRopes$Judges", "firstTick", "[I", true)
  | 4 => ("TwoRopes$Judges", "lengthOf", "[I", true)
  | 5 => ("TwoRopes$Judges", "toldAt", "[I", true)
  | 6 => ("TwoRopes$Judges", "untoldAt", "[I", true)
  | 7 => ("TwoRopes$Judges", "count", "I", false)
  | 8 => ("TwoRopes$Judges", "time", "I", false)
  | 9 => ("TwoRopes$Judges", "picked", "[I", true)
  | _ => ("TwoRopes$Judges", "pickedCount", "I", false)
def tyX2 : Nat → FieldType := fun k => match k with
  | 0 => .array .long
  | 1 => .array .int
  | 2 => .array .int
  | 3 => .array .int
  | 4 => .array .int
  | 5 => .array .int
  | 6 => .array .int
  | 7 => .int
  | 8 => .int
  | 9 => .array .int
  | _ => .int
abbrev wsX20 : List Cond := u_ws RX2 TX2 11
theorem nmX2 : ∀ a, a < 11 → ∀ b, b < 11 → a ≠ b → (TX2 a).2.1 ≠ (TX2 b).2.1 := by decide +kernel
theorem tyX2_ok : ∀ k, k < 11 → parseFieldDescriptor (TX2 k).2.2.1 = some (tyX2 k) := by decide +kernel
abbrev cX2_init : ByteArray := prog_4_method_1_code
def yX2_init : MethodName := ⟨RX2, "<init>", "()V"⟩
abbrev cX2_canTake : ByteArray := prog_4_method_2_code
def yX2_canTake : MethodName := ⟨RX2, "canTake", "(II)Z"⟩
abbrev cX2_take : ByteArray := prog_4_method_3_code
def yX2_take : MethodName := ⟨RX2, "take", "(III[BI)I"⟩
abbrev cX2_keepSign : ByteArray := prog_4_method_4_code
def yX2_keepSign : MethodName := ⟨RX2, "keepSign", "(II)V"⟩
abbrev cX2_takeBack : ByteArray := prog_4_method_5_code
def yX2_takeBack : MethodName := ⟨RX2, "takeBack", "(I)Z"⟩
abbrev cX2_goOn : ByteArray := prog_4_method_6_code
def yX2_goOn : MethodName := ⟨RX2, "goOn", "(I)I"⟩
abbrev cX2_pick : ByteArray := prog_4_method_7_code
def yX2_pick : MethodName := ⟨RX2, "pick", "(II)V"⟩
abbrev cX2_look : ByteArray := prog_4_method_8_code
def yX2_look : MethodName := ⟨RX2, "look", "(I)I"⟩
abbrev cX2_signOf : ByteArray := prog_4_method_9_code
def yX2_signOf : MethodName := ⟨RX2, "signOf", "(II)I"⟩
abbrev cX2_countSteps : ByteArray := prog_4_method_10_code
def yX2_countSteps : MethodName := ⟨RX2, "countSteps", "(IIIZ)I"⟩
abbrev cX2_compare : ByteArray := prog_4_method_11_code
def yX2_compare : MethodName := ⟨RX2, "compare", "(LTwoRopes$Trick;ZI)I"⟩
abbrev cX2_firstSlip : ByteArray := prog_4_method_12_code
def yX2_firstSlip : MethodName := ⟨RX2, "firstSlip", "(LTwoRopes$Log;Z)I"⟩
def RX3 : String := "TwoRopes$Jumper"
def TX3 : u_T := fun k => match k with
  | 0 => ("TwoRopes$Jumper", "where", "I", false)
  | 1 => ("TwoRopes$Jumper", "foot", "I", false)
  | 2 => ("TwoRopes$Jumper", "faces", "I", false)
  | 3 => ("TwoRopes$Jumper", "trick", "I", false)
  | 4 => ("TwoRopes$Jumper", "mirrored", "Z", false)
  | 5 => ("TwoRopes$Jumper", "began", "I", false)
  | _ => ("TwoRopes$Jumper", "downs", "I", false)
def tyX3 : Nat → FieldType := fun k => match k with
  | 0 => .int
  | 1 => .int
  | 2 => .int
  | 3 => .int
  | 4 => .boolean
  | 5 => .int
  | _ => .int
abbrev wsX30 : List Cond := u_ws RX3 TX3 7
theorem nmX3 : ∀ a, a < 7 → ∀ b, b < 7 → a ≠ b → (TX3 a).2.1 ≠ (TX3 b).2.1 := by decide +kernel
theorem tyX3_ok : ∀ k, k < 7 → parseFieldDescriptor (TX3 k).2.2.1 = some (tyX3 k) := by decide +kernel
abbrev cX3_init : ByteArray := prog_5_method_1_code
def yX3_init : MethodName := ⟨RX3, "<init>", "()V"⟩
abbrev cX3_reset : ByteArray := prog_5_method_2_code
def yX3_reset : MethodName := ⟨RX3, "reset", "(I)V"⟩
abbrev cX3_isFree : ByteArray := prog_5_method_3_code
def yX3_isFree : MethodName := ⟨RX3, "isFree", "()Z"⟩
abbrev cX3_isInTrick : ByteArray := prog_5_method_4_code
def yX3_isInTrick : MethodName := ⟨RX3, "isInTrick", "()Z"⟩
abbrev cX3_begin : ByteArray := prog_5_method_5_code
def yX3_begin : MethodName := ⟨RX3, "begin", "(IZI)V"⟩
abbrev cX3_endTrick : ByteArray := prog_5_method_6_code
def yX3_endTrick : MethodName := ⟨RX3, "endTrick", "()V"⟩
abbrev cX3_stepRunning : ByteArray := prog_5_method_7_code
def yX3_stepRunning : MethodName := ⟨RX3, "stepRunning", "()V"⟩
abbrev cX3_stepIn : ByteArray := prog_5_method_8_code
def yX3_stepIn : MethodName := ⟨RX3, "stepIn", "(LTwoRopes$Trick;I)V"⟩
abbrev cX3_isHit : ByteArray := prog_5_method_9_code
def yX3_isHit : MethodName := ⟨RX3, "isHit", "(I)Z"⟩
def RX4 : String := "TwoRopes$Log"
def TX4 : u_T := fun k => match k with
  | 0 => ("TwoRopes$Log", "missParts", "[I", true)
  | 1 => ("TwoRopes$Log", "doneParts", "[I", true)
  | 2 => ("TwoRopes$Log", "modes", "[I", true)
  | 3 => ("TwoRopes$Log", "cells", "[I", true)
  | 4 => ("TwoRopes$Log", "timesDone", "[I", true)
  | 5 => ("TwoRopes$Log", "kept", "Z", false)
  | 6 => ("TwoRopes$Log", "beats", "I", false)
  | 7 => ("TwoRopes$Log", "misses", "I", false)
  | 8 => ("TwoRopes$Log", "dones", "I", false)
  | 9 => ("TwoRopes$Log", "gained", "I", false)
  | _ => ("TwoRopes$Log", "stills", "I", false)
def tyX4 : Nat → FieldType := fun k => match k with
  | 0 => .array .int
  | 1 => .array .int
  | 2 => .array .int
  | 3 => .array .int
  | 4 => .array .int
  | 5 => .boolean
  | 6 => .int
  | 7 => .int
  | 8 => .int
  | 9 => .int
  | _ => .int
abbrev wsX40 : List Cond := u_ws RX4 TX4 11
theorem nmX4 : ∀ a, a < 11 → ∀ b, b < 11 → a ≠ b → (TX4 a).2.1 ≠ (TX4 b).2.1 := by decide +kernel
theorem tyX4_ok : ∀ k, k < 11 → parseFieldDescriptor (TX4 k).2.2.1 = some (tyX4 k) := by decide +kernel
abbrev cX4_init : ByteArray := prog_6_method_1_code
def yX4_init : MethodName := ⟨RX4, "<init>", "()V"⟩
abbrev cX4_forget : ByteArray := prog_6_method_2_code
def yX4_forget : MethodName := ⟨RX4, "forget", "()V"⟩
abbrev cX4_begin : ByteArray := prog_6_method_3_code
def yX4_begin : MethodName := ⟨RX4, "begin", "(I)V"⟩
abbrev cX4_addMiss : ByteArray := prog_6_method_4_code
def yX4_addMiss : MethodName := ⟨RX4, "addMiss", "(III)V"⟩
abbrev cX4_addDone : ByteArray := prog_6_method_5_code
def yX4_addDone : MethodName := ⟨RX4, "addDone", "(ILTwoRopes$Jumper;I)V"⟩
abbrev cX4_gainOf : ByteArray := prog_6_method_6_code
def yX4_gainOf : MethodName := ⟨RX4, "gainOf", "(II)I"⟩
abbrev cX4_keepBeat : ByteArray := prog_6_method_7_code
def yX4_keepBeat : MethodName := ⟨RX4, "keepBeat", "(II[LTwoRopes$Jumper;)V"⟩
abbrev cX4_tellMiss : ByteArray := prog_6_method_8_code
def yX4_tellMiss : MethodName := ⟨RX4, "tellMiss", "(II)I"⟩
abbrev cX4_tellDone : ByteArray := prog_6_method_9_code
def yX4_tellDone : MethodName := ⟨RX4, "tellDone", "(II)I"⟩
abbrev cX4_hasBeat : ByteArray := prog_6_method_10_code
def yX4_hasBeat : MethodName := ⟨RX4, "hasBeat", "(I)Z"⟩
abbrev cX4_tellMode : ByteArray := prog_6_method_11_code
def yX4_tellMode : MethodName := ⟨RX4, "tellMode", "(I)I"⟩
abbrev cX4_tellPerson : ByteArray := prog_6_method_12_code
def yX4_tellPerson : MethodName := ⟨RX4, "tellPerson", "(III)I"⟩
abbrev cX4_tellFeet : ByteArray := prog_6_method_13_code
def yX4_tellFeet : MethodName := ⟨RX4, "tellFeet", "(II)I"⟩
def RX5 : String := "TwoRopes$Reader"
def TX5 : u_T := fun k => match k with
  | 0 => ("TwoRopes$Reader", "text", "[B", false)
  | 1 => ("TwoRopes$Reader", "wordLetters", "[J", true)
  | 2 => ("TwoRopes$Reader", "length", "I", false)
  | 3 => ("TwoRopes$Reader", "at", "I", false)
  | 4 => ("TwoRopes$Reader", "fault", "I", false)
  | 5 => ("TwoRopes$Reader", "faultPlace", "I", false)
  | 6 => ("TwoRopes$Reader", "place", "I", false)
  | 7 => ("TwoRopes$Reader", "kind", "I", false)
  | 8 => ("TwoRopes$Reader", "value", "I", false)
  | _ => ("TwoRopes$Reader", "letters", "J", false)
def tyX5 : Nat → FieldType := fun k => match k with
  | 0 => .array .byte
  | 1 => .array .long
  | 2 => .int
  | 3 => .int
  | 4 => .int
  | 5 => .int
  | 6 => .int
  | 7 => .int
  | 8 => .int
  | _ => .long
abbrev wsX50 : List Cond := u_ws RX5 TX5 10
theorem nmX5 : ∀ a, a < 10 → ∀ b, b < 10 → a ≠ b → (TX5 a).2.1 ≠ (TX5 b).2.1 := by decide +kernel
theorem tyX5_ok : ∀ k, k < 10 → parseFieldDescriptor (TX5 k).2.2.1 = some (tyX5 k) := by decide +kernel
abbrev cX5_init : ByteArray := prog_7_method_1_code
def yX5_init : MethodName := ⟨RX5, "<init>", "()V"⟩
abbrev cX5_withLetter : ByteArray := prog_7_method_2_code
def yX5_withLetter : MethodName := ⟨RX5, "withLetter", "(JI)J"⟩
abbrev cX5_open : ByteArray := prog_7_method_3_code
def yX5_open : MethodName := ⟨RX5, "open", "([BI)V"⟩
abbrev cX5_refuse : ByteArray := prog_7_method_4_code
def yX5_refuse : MethodName := ⟨RX5, "refuse", "(I)Z"⟩
abbrev cX5_pass : ByteArray := prog_7_method_5_code
def yX5_pass : MethodName := ⟨RX5, "pass", "(I)Z"⟩
abbrev cX5_numberStands : ByteArray := prog_7_method_6_code
def yX5_numberStands : MethodName := ⟨RX5, "numberStands", "(II)Z"⟩
abbrev cX5_advance : ByteArray := prog_7_method_7_code
def yX5_advance : MethodName := ⟨RX5, "advance", "()V"⟩
abbrev cX5_readWord : ByteArray := prog_7_method_8_code
def yX5_readWord : MethodName := ⟨RX5, "readWord", "()V"⟩
abbrev cX5_kindOfWord : ByteArray := prog_7_method_9_code
def yX5_kindOfWord : MethodName := ⟨RX5, "kindOfWord", "()I"⟩
abbrev cX5_readNumber : ByteArray := prog_7_method_10_code
def yX5_readNumber : MethodName := ⟨RX5, "readNumber", "()V"⟩
abbrev cX5_readSigns : ByteArray := prog_7_method_11_code
def yX5_readSigns : MethodName := ⟨RX5, "readSigns", "()V"⟩
abbrev cX5_readMark : ByteArray := prog_7_method_12_code
def yX5_readMark : MethodName := ⟨RX5, "readMark", "()V"⟩
abbrev cX5_signAt : ByteArray := prog_7_method_13_code
def yX5_signAt : MethodName := ⟨RX5, "signAt", "(I)I"⟩
def RX6 : String := "TwoRopes$Rhyme"
def TX6 : u_T := fun k => match k with
  | 0 => ("TwoRopes$Rhyme", "starts", "[I", true)
  | 1 => ("TwoRopes$Rhyme", "words", "I", false)
  | _ => ("TwoRopes$Rhyme", "syllables", "I", false)
def tyX6 : Nat → FieldType := fun k => match k with
  | 0 => .array .int
  | 1 => .int
  | _ => .int
abbrev wsX60 : List Cond := u_ws RX6 TX6 3
theorem nmX6 : ∀ a, a < 3 → ∀ b, b < 3 → a ≠ b → (TX6 a).2.1 ≠ (TX6 b).2.1 := by decide +kernel
theorem tyX6_ok : ∀ k, k < 3 → parseFieldDescriptor (TX6 k).2.2.1 = some (tyX6 k) := by decide +kernel
abbrev cX6_init : ByteArray := prog_8_method_1_code
def yX6_init : MethodName := ⟨RX6, "<init>", "()V"⟩
abbrev cX6_readAll : ByteArray := prog_8_method_2_code
def yX6_readAll : MethodName := ⟨RX6, "readAll", "([BI)V"⟩
abbrev cX6_beginWord : ByteArray := prog_8_method_3_code
def yX6_beginWord : MethodName := ⟨RX6, "beginWord", "()V"⟩
abbrev cX6_isVowel : ByteArray := prog_8_method_4_code
def yX6_isVowel : MethodName := ⟨RX6, "isVowel", "(I)Z"⟩
abbrev cX6_lastOf : ByteArray := prog_8_method_5_code
def yX6_lastOf : MethodName := ⟨RX6, "lastOf", "(I)I"⟩
def RX7 : String := "TwoRopes$Routine"
def TX7 : u_T := fun k => match k with
  | 0 => ("TwoRopes$Routine", "beatOf", "[I", true)
  | 1 => ("TwoRopes$Routine", "personOf", "[I", true)
  | 2 => ("TwoRopes$Routine", "actOf", "[I", true)
  | 3 => ("TwoRopes$Routine", "withOf", "[I", true)
  | 4 => ("TwoRopes$Routine", "mirroredOf", "[Z", true)
  | 5 => ("TwoRopes$Routine", "beats", "I", false)
  | _ => ("TwoRopes$Routine", "count", "I", false)
def tyX7 : Nat → FieldType := fun k => match k with
  | 0 => .array .int
  | 1 => .array .int
  | 2 => .array .int
  | 3 => .array .int
  | 4 => .array .boolean
  | 5 => .int
  | _ => .int
abbrev wsX70 : List Cond := u_ws RX7 TX7 7
theorem nmX7 : ∀ a, a < 7 → ∀ b, b < 7 → a ≠ b → (TX7 a).2.1 ≠ (TX7 b).2.1 := by decide +kernel
theorem tyX7_ok : ∀ k, k < 7 → parseFieldDescriptor (TX7 k).2.2.1 = some (tyX7 k) := by decide +kernel
abbrev cX7_init : ByteArray := prog_9_method_1_code
def yX7_init : MethodName := ⟨RX7, "<init>", "()V"⟩
abbrev cX7_readAll : ByteArray := prog_9_method_2_code
def yX7_readAll : MethodName := ⟨RX7, "readAll", "(LTwoRopes$Reader;LTwoRopes$Book;)Z"⟩
abbrev cX7_readLine : ByteArray := prog_9_method_3_code
def yX7_readLine : MethodName := ⟨RX7, "readLine", "(LTwoRopes$Reader;LTwoRopes$Book;)Z"⟩
abbrev cX7_readAct : ByteArray := prog_9_method_4_code
def yX7_readAct : MethodName := ⟨RX7, "readAct", "(LTwoRopes$Reader;LTwoRopes$Book;)Z"⟩
abbrev cX7_readSide : ByteArray := prog_9_method_5_code
def yX7_readSide : MethodName := ⟨RX7, "readSide", "(LTwoRopes$Reader;)Z"⟩
abbrev cX7_readTrick : ByteArray := prog_9_method_6_code
def yX7_readTrick : MethodName := ⟨RX7, "readTrick", "(LTwoRopes$Reader;LTwoRopes$Book;)Z"⟩
def RX8 : String := "TwoRopes$Trick"
def TX8 : u_T := fun k => match k with
  | 0 => ("TwoRopes$Trick", "downs", "[I", true)
  | 1 => ("TwoRopes$Trick", "modes", "[I", true)
  | 2 => ("TwoRopes$Trick", "name", "J", false)
  | 3 => ("TwoRopes$Trick", "worth", "I", false)
  | 4 => ("TwoRopes$Trick", "beats", "I", false)
  | 5 => ("TwoRopes$Trick", "turn", "I", false)
  | 6 => ("TwoRopes$Trick", "from", "I", false)
  | 7 => ("TwoRopes$Trick", "facing", "I", false)
  | _ => ("TwoRopes$Trick", "alone", "Z", false)
def tyX8 : Nat → FieldType := fun k => match k with
  | 0 => .array .int
  | 1 => .array .int
  | 2 => .long
  | 3 => .int
  | 4 => .int
  | 5 => .int
  | 6 => .int
  | 7 => .int
  | _ => .boolean
abbrev wsX80 : List Cond := u_ws RX8 TX8 9
theorem nmX8 : ∀ a, a < 9 → ∀ b, b < 9 → a ≠ b → (TX8 a).2.1 ≠ (TX8 b).2.1 := by decide +kernel
theorem tyX8_ok : ∀ k, k < 9 → parseFieldDescriptor (TX8 k).2.2.1 = some (tyX8 k) := by decide +kernel
abbrev cX8_init : ByteArray := prog_10_method_1_code
def yX8_init : MethodName := ⟨RX8, "<init>", "()V"⟩
abbrev cX8_clear : ByteArray := prog_10_method_2_code
def yX8_clear : MethodName := ⟨RX8, "clear", "(J)V"⟩
abbrev cX8_takeSigns : ByteArray := prog_10_method_3_code
def yX8_takeSigns : MethodName := ⟨RX8, "takeSigns", "(LTwoRopes$Reader;)V"⟩
abbrev cX8_setModes : ByteArray := prog_10_method_4_code
def yX8_setModes : MethodName := ⟨RX8, "setModes", "(III)Z"⟩
abbrev cX8_tell : ByteArray := prog_10_method_5_code
def yX8_tell : MethodName := ⟨RX8, "tell", "(ZI)I"⟩
abbrev cX8_turned : ByteArray := prog_10_method_6_code
def yX8_turned : MethodName := ⟨RX8, "turned", "(Z)I"⟩
abbrev cX8_wantedFoot : ByteArray := prog_10_method_7_code
def yX8_wantedFoot : MethodName := ⟨RX8, "wantedFoot", "(Z)I"⟩
abbrev cX8_leftFoot : ByteArray := prog_10_method_8_code
def yX8_leftFoot : MethodName := ⟨RX8, "leftFoot", "(Z)I"⟩
abbrev cX8_modeAt : ByteArray := prog_10_method_9_code
def yX8_modeAt : MethodName := ⟨RX8, "modeAt", "(I)I"⟩
abbrev cX8_downAt : ByteArray := prog_10_method_10_code
def yX8_downAt : MethodName := ⟨RX8, "downAt", "(IZ)I"⟩
abbrev cX8_canBegin : ByteArray := prog_10_method_11_code
def yX8_canBegin : MethodName := ⟨RX8, "canBegin", "(IIZ)Z"⟩
abbrev cX8_firstClash : ByteArray := prog_10_method_12_code
def yX8_firstClash : MethodName := ⟨RX8, "firstClash", "()I"⟩
def RX9 : String := "TwoRopes$Yard"
def TX9 : u_T := fun k => match k with
  | 0 => ("TwoRopes$Yard", "log", "LTwoRopes$Log;", true)
  | 1 => ("TwoRopes$Yard", "jumpers", "[LTwoRopes$Jumper;", true)
  | 2 => ("TwoRopes$Yard", "holder", "[I", true)
  | 3 => ("TwoRopes$Yard", "taker", "[I", true)
  | 4 => ("TwoRopes$Yard", "halfTaken", "[Z", true)
  | _ => ("TwoRopes$Yard", "modeBefore", "I", false)
def tyX9 : Nat → FieldType := fun k => match k with
  | 0 => .object "TwoRopes$Log"
  | 1 => .array (.object "TwoRopes$Jumper")
  | 2 => .array .int
  | 3 => .array .int
  | 4 => .array .boolean
  | _ => .int
abbrev wsX90 : List Cond := u_ws RX9 TX9 6
theorem nmX9 : ∀ a, a < 6 → ∀ b, b < 6 → a ≠ b → (TX9 a).2.1 ≠ (TX9 b).2.1 := by decide +kernel
theorem tyX9_ok : ∀ k, k < 6 → parseFieldDescriptor (TX9 k).2.2.1 = some (tyX9 k) := by decide +kernel
abbrev cX9_init : ByteArray := prog_11_method_1_code
def yX9_init : MethodName := ⟨RX9, "<init>", "()V"⟩
abbrev cX9_play : ByteArray := prog_11_method_2_code
def yX9_play : MethodName := ⟨RX9, "play", "(LTwoRopes$Book;LTwoRopes$Routine;I)V"⟩
abbrev cX9_setUp : ByteArray := prog_11_method_3_code
def yX9_setUp : MethodName := ⟨RX9, "setUp", "()V"⟩
abbrev cX9_followLine : ByteArray := prog_11_method_4_code
def yX9_followLine : MethodName := ⟨RX9, "followLine", "(LTwoRopes$Book;LTwoRopes$Routine;I)V"⟩
abbrev cX9_comeIn : ByteArray := prog_11_method_5_code
def yX9_comeIn : MethodName := ⟨RX9, "comeIn", "(LTwoRopes$Book;LTwoRopes$Jumper;I)I"⟩
abbrev cX9_goOut : ByteArray := prog_11_method_6_code
def yX9_goOut : MethodName := ⟨RX9, "goOut", "(LTwoRopes$Jumper;I)I"⟩
abbrev cX9_beginTrick : ByteArray := prog_11_method_7_code
def yX9_beginTrick : MethodName := ⟨RX9, "beginTrick", "(LTwoRopes$Book;LTwoRopes$Jumper;IZI)I"⟩
abbrev cX9_takeEnd : ByteArray := prog_11_method_8_code
def yX9_takeEnd : MethodName := ⟨RX9, "takeEnd", "(II)I"⟩
abbrev cX9_countIn : ByteArray := prog_11_method_9_code
def yX9_countIn : MethodName := ⟨RX9, "countIn", "()I"⟩
abbrev cX9_loneTrickGoesOn : ByteArray := prog_11_method_10_code
def yX9_loneTrickGoesOn : MethodName := ⟨RX9, "loneTrickGoesOn", "(LTwoRopes$Book;)Z"⟩
abbrev cX9_stand : ByteArray := prog_11_method_11_code
def yX9_stand : MethodName := ⟨RX9, "stand", "(I)V"⟩
abbrev cX9_breaks : ByteArray := prog_11_method_12_code
def yX9_breaks : MethodName := ⟨RX9, "breaks", "(LTwoRopes$Book;I)Z"⟩
abbrev cX9_leastInTrick : ByteArray := prog_11_method_13_code
def yX9_leastInTrick : MethodName := ⟨RX9, "leastInTrick", "()I"⟩
abbrev cX9_wantedMode : ByteArray := prog_11_method_14_code
def yX9_wantedMode : MethodName := ⟨RX9, "wantedMode", "(LTwoRopes$Book;II)I"⟩
abbrev cX9_step : ByteArray := prog_11_method_15_code
def yX9_step : MethodName := ⟨RX9, "step", "(LTwoRopes$Book;I)V"⟩
abbrev cX9_missByModes : ByteArray := prog_11_method_16_code
def yX9_missByModes : MethodName := ⟨RX9, "missByModes", "(LTwoRopes$Book;III)Z"⟩
abbrev cX9_missByHands : ByteArray := prog_11_method_17_code
def yX9_missByHands : MethodName := ⟨RX9, "missByHands", "(II)Z"⟩
abbrev cX9_missByFeet : ByteArray := prog_11_method_18_code
def yX9_missByFeet : MethodName := ⟨RX9, "missByFeet", "(II)Z"⟩
abbrev cX9_breakOff : ByteArray := prog_11_method_19_code
def yX9_breakOff : MethodName := ⟨RX9, "breakOff", "()V"⟩
abbrev cX9_endTricks : ByteArray := prog_11_method_20_code
def yX9_endTricks : MethodName := ⟨RX9, "endTricks", "(LTwoRopes$Book;I)V"⟩
abbrev cX9_changeHands : ByteArray := prog_11_method_21_code
def yX9_changeHands : MethodName := ⟨RX9, "changeHands", "()V"⟩
def RX10 : String := "TwoRopes"
def TX10 : u_T := fun k => match k with
  | 0 => ("TwoRopes", "tapeBytes", "[B", true)
  | 1 => ("TwoRopes", "reader", "LTwoRopes$Reader;", true)
  | 2 => ("TwoRopes", "yard", "LTwoRopes$Yard;", true)
  | 3 => ("TwoRopes", "joiner", "LTwoRopes$Joiner;", true)
  | 4 => ("TwoRopes", "saying", "LTwoRopes$Rhyme;", true)
  | 5 => ("TwoRopes", "judges", "LTwoRopes$Judges;", true)
  | 6 => ("TwoRopes", "tricks", "LTwoRopes$Book;", false)
  | 7 => ("TwoRopes", "spareTricks", "LTwoRopes$Book;", false)
  | 8 => ("TwoRopes", "plan", "LTwoRopes$Routine;", false)
  | 9 => ("TwoRopes", "sparePlan", "LTwoRopes$Routine;", false)
  | 10 => ("TwoRopes", "planned", "Z", false)
  | 11 => ("TwoRopes", "tapeLength", "I", false)
  | 12 => ("TwoRopes", "stop", "I", false)
  | _ => ("TwoRopes", "penalty", "I", false)
def tyX10 : Nat → FieldType := fun k => match k with
  | 0 => .array .byte
  | 1 => .object "TwoRopes$Reader"
  | 2 => .object "TwoRopes$Yard"
  | 3 => .object "TwoRopes$Joiner"
  | 4 => .object "TwoRopes$Rhyme"
  | 5 => .object "TwoRopes$Judges"
  | 6 => .object "TwoRopes$Book"
  | 7 => .object "TwoRopes$Book"
  | 8 => .object "TwoRopes$Routine"
  | 9 => .object "TwoRopes$Routine"
  | 10 => .boolean
  | 11 => .int
  | 12 => .int
  | _ => .int
abbrev wsX100 : List Cond := u_ws RX10 TX10 14
theorem nmX10 : ∀ a, a < 14 → ∀ b, b < 14 → a ≠ b → (TX10 a).2.1 ≠ (TX10 b).2.1 := by decide +kernel
theorem tyX10_ok : ∀ k, k < 14 → parseFieldDescriptor (TX10 k).2.2.1 = some (tyX10 k) := by decide +kernel
abbrev cX10_init : ByteArray := prog_1_method_1_code
def yX10_init : MethodName := ⟨RX10, "<init>", "()V"⟩
abbrev cX10_feed : ByteArray := prog_1_method_2_code
def yX10_feed : MethodName := ⟨RX10, "feed", "(IIIII)I"⟩
abbrev cX10_putFour : ByteArray := prog_1_method_3_code
def yX10_putFour : MethodName := ⟨RX10, "putFour", "(II)V"⟩
abbrev cX10_end : ByteArray := prog_1_method_4_code
def yX10_end : MethodName := ⟨RX10, "end", "(I)I"⟩
abbrev cX10_book : ByteArray := prog_1_method_5_code
def yX10_book : MethodName := ⟨RX10, "book", "()I"⟩
abbrev cX10_routine : ByteArray := prog_1_method_6_code
def yX10_routine : MethodName := ⟨RX10, "routine", "()I"⟩
abbrev cX10_takeTape : ByteArray := prog_1_method_7_code
def yX10_takeTape : MethodName := ⟨RX10, "takeTape", "()I"⟩
abbrev cX10_fault : ByteArray := prog_1_method_8_code
def yX10_fault : MethodName := ⟨RX10, "fault", "(I)I"⟩
abbrev cX10_trick : ByteArray := prog_1_method_9_code
def yX10_trick : MethodName := ⟨RX10, "trick", "(IZI)I"⟩
abbrev cX10_sound : ByteArray := prog_1_method_10_code
def yX10_sound : MethodName := ⟨RX10, "sound", "(I)I"⟩
abbrev cX10_rules : ByteArray := prog_1_method_11_code
def yX10_rules : MethodName := ⟨RX10, "rules", "(II)Z"⟩
abbrev cX10_run : ByteArray := prog_1_method_12_code
def yX10_run : MethodName := ⟨RX10, "run", "()I"⟩
abbrev cX10_ran : ByteArray := prog_1_method_13_code
def yX10_ran : MethodName := ⟨RX10, "ran", "(I)I"⟩
abbrev cX10_miss : ByteArray := prog_1_method_14_code
def yX10_miss : MethodName := ⟨RX10, "miss", "(II)I"⟩
abbrev cX10_done : ByteArray := prog_1_method_15_code
def yX10_done : MethodName := ⟨RX10, "done", "(II)I"⟩
abbrev cX10_mode : ByteArray := prog_1_method_16_code
def yX10_mode : MethodName := ⟨RX10, "mode", "(I)I"⟩
abbrev cX10_person : ByteArray := prog_1_method_17_code
def yX10_person : MethodName := ⟨RX10, "person", "(III)I"⟩
abbrev cX10_feet : ByteArray := prog_1_method_18_code
def yX10_feet : MethodName := ⟨RX10, "feet", "(II)I"⟩
abbrev cX10_best : ByteArray := prog_1_method_19_code
def yX10_best : MethodName := ⟨RX10, "best", "(III)I"⟩
abbrev cX10_joined : ByteArray := prog_1_method_20_code
def yX10_joined : MethodName := ⟨RX10, "joined", "(IIIII)I"⟩
abbrev cX10_canJoin : ByteArray := prog_1_method_21_code
def yX10_canJoin : MethodName := ⟨RX10, "canJoin", "(III)Z"⟩
abbrev cX10_rhyme : ByteArray := prog_1_method_22_code
def yX10_rhyme : MethodName := ⟨RX10, "rhyme", "()I"⟩
abbrev cX10_word : ByteArray := prog_1_method_23_code
def yX10_word : MethodName := ⟨RX10, "word", "(I)I"⟩
abbrev cX10_stays : ByteArray := prog_1_method_24_code
def yX10_stays : MethodName := ⟨RX10, "stays", "(I)I"⟩
abbrev cX10_tape : ByteArray := prog_1_method_25_code
def yX10_tape : MethodName := ⟨RX10, "tape", "(III)I"⟩
abbrev cX10_untell : ByteArray := prog_1_method_26_code
def yX10_untell : MethodName := ⟨RX10, "untell", "(I)Z"⟩
abbrev cX10_later : ByteArray := prog_1_method_27_code
def yX10_later : MethodName := ⟨RX10, "later", "(I)I"⟩
abbrev cX10_seen : ByteArray := prog_1_method_28_code
def yX10_seen : MethodName := ⟨RX10, "seen", "(III)I"⟩
abbrev cX10_steps : ByteArray := prog_1_method_29_code
def yX10_steps : MethodName := ⟨RX10, "steps", "(IIIIZI)I"⟩
abbrev cX10_told : ByteArray := prog_1_method_30_code
def yX10_told : MethodName := ⟨RX10, "told", "(IIIZI)I"⟩
abbrev cX10_slip : ByteArray := prog_1_method_31_code
def yX10_slip : MethodName := ⟨RX10, "slip", "(IZI)I"⟩
abbrev cX10_about : ByteArray := prog_1_method_32_code
def yX10_about : MethodName := ⟨RX10, "about", "(I)I"⟩
abbrev cX10_isPerson : ByteArray := prog_1_method_33_code
def yX10_isPerson : MethodName := ⟨RX10, "isPerson", "(I)Z"⟩
abbrev cX10_isBeat : ByteArray := prog_1_method_34_code
def yX10_isBeat : MethodName := ⟨RX10, "isBeat", "(I)Z"⟩
abbrev cX10_isTick : ByteArray := prog_1_method_35_code
def yX10_isTick : MethodName := ⟨RX10, "isTick", "(I)Z"⟩
abbrev cX10_isLetter : ByteArray := prog_1_method_36_code
def yX10_isLetter : MethodName := ⟨RX10, "isLetter", "(I)Z"⟩
abbrev cX10_isDigit : ByteArray := prog_1_method_37_code
def yX10_isDigit : MethodName := ⟨RX10, "isDigit", "(I)Z"⟩
abbrev cX10_feetOf : ByteArray := prog_1_method_38_code
def yX10_feetOf : MethodName := ⟨RX10, "feetOf", "(I)I"⟩
abbrev cX10_otherSide : ByteArray := prog_1_method_39_code
def yX10_otherSide : MethodName := ⟨RX10, "otherSide", "(I)I"⟩
abbrev cX10_passes : ByteArray := prog_1_method_40_code
def yX10_passes : MethodName := ⟨RX10, "passes", "(II)Z"⟩
def RX11 : String := "TwoRopesModel"
def TX11 : u_T := fun k => match k with
  | 0 => ("TwoRopesModel", "tape", "[B", true)
  | 1 => ("TwoRopesModel", "text", "[B", true)
  | 2 => ("TwoRopesModel", "taped", "I", false)
  | 3 => ("TwoRopesModel", "size", "I", false)
  | 4 => ("TwoRopesModel", "faultKind", "I", false)
  | 5 => ("TwoRopesModel", "faultPlace", "I", false)
  | 6 => ("TwoRopesModel", "at", "I", false)
  | 7 => ("TwoRopesModel", "end", "I", false)
  | 8 => ("TwoRopesModel", "token", "I", false)
  | 9 => ("TwoRopesModel", "number", "I", false)
  | 10 => ("TwoRopesModel", "name", "J", false)
  | 11 => ("TwoRopesModel", "tName", "[J", true)
  | 12 => ("TwoRopesModel", "trickMany", "[I", true)
  | 13 => ("TwoRopesModel", "tWorth", "[I", true)
  | 14 => ("TwoRopesModel", "tBeats", "[I", true)
  | 15 => ("TwoRopesModel", "tTurn", "[I", true)
  | 16 => ("TwoRopesModel", "tFrom", "[I", true)
  | 17 => ("TwoRopesModel", "tFacing", "[I", true)
  | 18 => ("TwoRopesModel", "tFeet", "[I", true)
  | 19 => ("TwoRopesModel", "tMode", "[I", true)
  | 20 => ("TwoRopesModel", "isAlone", "[Z", true)
  | 21 => ("TwoRopesModel", "bank", "I", false)
  | 22 => ("TwoRopesModel", "rb", "I", false)
  | 23 => ("TwoRopesModel", "lineMany", "[I", true)
  | 24 => ("TwoRopesModel", "beatMany", "[I", true)
  | 25 => ("TwoRopesModel", "nBeat", "[I", true)
  | 26 => ("TwoRopesModel", "nPerson", "[I", true)
  | 27 => ("TwoRopesModel", "nAct", "[I", true)
  | 28 => ("TwoRopesModel", "nOne", "[I", true)
  | 29 => ("TwoRopesModel", "isMirrored", "[Z", true)
  | 30 => ("TwoRopesModel", "routineBank", "I", false)
  | 31 => ("TwoRopesModel", "nb", "I", false)
  | 32 => ("TwoRopesModel", "hasRoutine", "Z", false)
  | 33 => ("TwoRopesModel", "hasRun", "Z", false)
  | 34 => ("TwoRopesModel", "stop", "I", false)
  | 35 => ("TwoRopesModel", "penalty", "I", false)
  | 36 => ("TwoRopesModel", "what", "[I", true)
  | 37 => ("TwoRopesModel", "foot", "[I", true)
  | 38 => ("TwoRopesModel", "faces", "[I", true)
  | 39 => ("TwoRopesModel", "doing", "[I", true)
  | 40 => ("TwoRopesModel", "begun", "[I", true)
  | 41 => ("TwoRopesModel", "takenFor", "[I", true)
  | 42 => ("TwoRopesModel", "takerOf", "[I", true)
  | 43 => ("TwoRopesModel", "timesDone", "[I", true)
  | 44 => ("TwoRopesModel", "modes", "[I", true)
  | 45 => ("TwoRopesModel", "wWhat", "[I", true)
  | 46 => ("TwoRopesModel", "wFoot", "[I", true)
  | 47 => ("TwoRopesModel", "wFaces", "[I", true)
  | 48 => ("TwoRopesModel", "wTrick", "[I", true)
  | 49 => ("TwoRopesModel", "wFeet", "[I", true)
  | 50 => ("TwoRopesModel", "mBeat", "[I", true)
  | 51 => ("TwoRopesModel", "mLaw", "[I", true)
  | 52 => ("TwoRopesModel", "mPerson", "[I", true)
  | 53 => ("TwoRopesModel", "dBeat", "[I", true)
  | 54 => ("TwoRopesModel", "dTrick", "[I", true)
  | 55 => ("TwoRopesModel", "dPerson", "[I", true)
  | 56 => ("TwoRopesModel", "dGained", "[I", true)
  | 57 => ("TwoRopesModel", "doesMirrored", "[Z", true)
  | 58 => ("TwoRopesModel", "dMirrored", "[Z", true)
  | 59 => ("TwoRopesModel", "now", "I", false)
  | 60 => ("TwoRopesModel", "misses", "I", false)
  | 61 => ("TwoRopesModel", "dones", "I", false)
  | 62 => ("TwoRopesModel", "gained", "I", false)
  | 63 => ("TwoRopesModel", "stills", "I", false)
  | 64 => ("TwoRopesModel", "ranBeats", "I", false)
  | 65 => ("TwoRopesModel", "modeBefore", "I", false)
  | 66 => ("TwoRopesModel", "stillLeft", "I", false)
  | 67 => ("TwoRopesModel", "step", "[I", true)
  | 68 => ("TwoRopesModel", "canDo", "[Z", true)
  | 69 => ("TwoRopesModel", "row", "[I", true)
  | 70 => ("TwoRopesModel", "rowMany", "I", false)
  | 71 => ("TwoRopesModel", "rowWorth", "I", false)
  | 72 => ("TwoRopesModel", "isReckoned", "Z", false)
  | 73 => ("TwoRopesModel", "wordFrom", "[I", true)
  | 74 => ("TwoRopesModel", "words", "I", false)
  | 75 => ("TwoRopesModel", "syllables", "I", false)
  | 76 => ("TwoRopesModel", "isGone", "[Z", true)
  | 77 => ("TwoRopesModel", "jJudge", "[I", true)
  | 78 => ("TwoRopesModel", "jPerson", "[I", true)
  | 79 => ("TwoRopesModel", "jFrom", "[I", true)
  | 80 => ("TwoRopesModel", "jMany", "[I", true)
  | 81 => ("TwoRopesModel", "jTold", "[I", true)
  | 82 => ("TwoRopesModel", "jUntold", "[I", true)
  | 83 => ("TwoRopesModel", "jSigns", "[B", true)
  | 84 => ("TwoRopesModel", "tapes", "I", false)
  | _ => ("TwoRopesModel", "time", "I", false)
def tyX11 : Nat → FieldType := fun k => match k with
  | 0 => .array .byte
  | 1 => .array .byte
  | 2 => .int
  | 3 => .int
  | 4 => .int
  | 5 => .int
  | 6 => .int
  | 7 => .int
  | 8 => .int
  | 9 => .int
  | 10 => .long
  | 11 => .array .long
  | 12 => .array .int
  | 13 => .array .int
  | 14 => .array .int
  | 15 => .array .int
  | 16 => .array .int
  | 17 => .array .int
  | 18 => .array .int
  | 19 => .array .int
  | 20 => .array .boolean
  | 21 => .int
  | 22 => .int
  | 23 => .array .int
  | 24 => .array .int
  | 25 => .array .int
  | 26 => .array .int
  | 27 => .array .int
  | 28 => .array .int
  | 29 => .array .boolean
  | 30 => .int
  | 31 => .int
  | 32 => .boolean
  | 33 => .boolean
  | 34 => .int
  | 35 => .int
  | 36 => .array .int
  | 37 => .array .int
  | 38 => .array .int
  | 39 => .array .int
  | 40 => .array .int
  | 41 => .array .int
  | 42 => .array .int
  | 43 => .array .int
  | 44 => .array .int
  | 45 => .array .int
  | 46 => .array .int
  | 47 => .array .int
  | 48 => .array .int
  | 49 => .array .int
  | 50 => .array .int
  | 51 => .array .int
  | 52 => .array .int
  | 53 => .array .int
  | 54 => .array .int
  | 55 => .array .int
  | 56 => .array .int
  | 57 => .array .boolean
  | 58 => .array .boolean
  | 59 => .int
  | 60 => .int
  | 61 => .int
  | 62 => .int
  | 63 => .int
  | 64 => .int
  | 65 => .int
  | 66 => .int
  | 67 => .array .int
  | 68 => .array .boolean
  | 69 => .array .int
  | 70 => .int
  | 71 => .int
  | 72 => .boolean
  | 73 => .array .int
  | 74 => .int
  | 75 => .int
  | 76 => .array .boolean
  | 77 => .array .int
  | 78 => .array .int
  | 79 => .array .int
  | 80 => .array .int
  | 81 => .array .int
  | 82 => .array .int
  | 83 => .array .byte
  | 84 => .int
  | _ => .int
abbrev wsX110 : List Cond := u_ws RX11 TX11 86
theorem nmX11 : ∀ a, a < 86 → ∀ b, b < 86 → a ≠ b → (TX11 a).2.1 ≠ (TX11 b).2.1 := by decide +kernel
theorem tyX11_ok : ∀ k, k < 86 → parseFieldDescriptor (TX11 k).2.2.1 = some (tyX11 k) := by decide +kernel
abbrev cX11_init : ByteArray := prog_13_method_1_code
def yX11_init : MethodName := ⟨RX11, "<init>", "()V"⟩
abbrev cX11_sign : ByteArray := prog_13_method_2_code
def yX11_sign : MethodName := ⟨RX11, "sign", "(I)I"⟩
abbrev cX11_isLetter : ByteArray := prog_13_method_3_code
def yX11_isLetter : MethodName := ⟨RX11, "isLetter", "(I)Z"⟩
abbrev cX11_isDigit : ByteArray := prog_13_method_4_code
def yX11_isDigit : MethodName := ⟨RX11, "isDigit", "(I)Z"⟩
abbrev cX11_fails : ByteArray := prog_13_method_5_code
def yX11_fails : MethodName := ⟨RX11, "fails", "(II)V"⟩
abbrev cX11_isGood : ByteArray := prog_13_method_6_code
def yX11_isGood : MethodName := ⟨RX11, "isGood", "()Z"⟩
abbrev cX11_isKept : ByteArray := prog_13_method_7_code
def yX11_isKept : MethodName := ⟨RX11, "isKept", "(J)Z"⟩
abbrev cX11_footOf : ByteArray := prog_13_method_8_code
def yX11_footOf : MethodName := ⟨RX11, "footOf", "(I)I"⟩
abbrev cX11_next : ByteArray := prog_13_method_9_code
def yX11_next : MethodName := ⟨RX11, "next", "()V"⟩
abbrev cX11_is : ByteArray := prog_13_method_10_code
def yX11_is : MethodName := ⟨RX11, "is", "(I)Z"⟩
abbrev cX11_isWord : ByteArray := prog_13_method_11_code
def yX11_isWord : MethodName := ⟨RX11, "isWord", "(J)Z"⟩
abbrev cX11_wrong : ByteArray := prog_13_method_12_code
def yX11_wrong : MethodName := ⟨RX11, "wrong", "()V"⟩
abbrev cX11_must : ByteArray := prog_13_method_13_code
def yX11_must : MethodName := ⟨RX11, "must", "(Z)V"⟩
abbrev cX11_numeral : ByteArray := prog_13_method_14_code
def yX11_numeral : MethodName := ⟨RX11, "numeral", "(II)I"⟩
abbrev cX11_ifWord : ByteArray := prog_13_method_15_code
def yX11_ifWord : MethodName := ⟨RX11, "ifWord", "(J)Z"⟩
abbrev cX11_takeTape : ByteArray := prog_13_method_16_code
def yX11_takeTape : MethodName := ⟨RX11, "takeTape", "()V"⟩
abbrev cX11_book : ByteArray := prog_13_method_17_code
def yX11_book : MethodName := ⟨RX11, "book", "()I"⟩
abbrev cX11_trickOf : ByteArray := prog_13_method_18_code
def yX11_trickOf : MethodName := ⟨RX11, "trickOf", "(IJ)I"⟩
abbrev cX11_readTrick : ByteArray := prog_13_method_19_code
def yX11_readTrick : MethodName := ⟨RX11, "readTrick", "()V"⟩
abbrev cX11_readParts : ByteArray := prog_13_method_20_code
def yX11_readParts : MethodName := ⟨RX11, "readParts", "(I)V"⟩
abbrev cX11_readBeats : ByteArray := prog_13_method_21_code
def yX11_readBeats : MethodName := ⟨RX11, "readBeats", "(II)V"⟩
abbrev cX11_fault : ByteArray := prog_13_method_22_code
def yX11_fault : MethodName := ⟨RX11, "fault", "(I)I"⟩
abbrev cX11_isTrick : ByteArray := prog_13_method_23_code
def yX11_isTrick : MethodName := ⟨RX11, "isTrick", "(I)Z"⟩
abbrev cX11_mirror : ByteArray := prog_13_method_24_code
def yX11_mirror : MethodName := ⟨RX11, "mirror", "(I)I"⟩
abbrev cX11_beats : ByteArray := prog_13_method_25_code
def yX11_beats : MethodName := ⟨RX11, "beats", "(I)I"⟩
abbrev cX11_turn : ByteArray := prog_13_method_26_code
def yX11_turn : MethodName := ⟨RX11, "turn", "(IZ)I"⟩
abbrev cX11_from : ByteArray := prog_13_method_27_code
def yX11_from : MethodName := ⟨RX11, "from", "(IZ)I"⟩
abbrev cX11_down : ByteArray := prog_13_method_28_code
def yX11_down : MethodName := ⟨RX11, "down", "(IZI)I"⟩
abbrev cX11_modeOf : ByteArray := prog_13_method_29_code
def yX11_modeOf : MethodName := ⟨RX11, "modeOf", "(II)I"⟩
abbrev cX11_leaves : ByteArray := prog_13_method_30_code
def yX11_leaves : MethodName := ⟨RX11, "leaves", "(IZ)I"⟩
abbrev cX11_trick : ByteArray := prog_13_method_31_code
def yX11_trick : MethodName := ⟨RX11, "trick", "(IZI)I"⟩
abbrev cX11_passes : ByteArray := prog_13_method_32_code
def yX11_passes : MethodName := ⟨RX11, "passes", "(II)Z"⟩
abbrev cX11_slipOf : ByteArray := prog_13_method_33_code
def yX11_slipOf : MethodName := ⟨RX11, "slipOf", "(I)I"⟩
abbrev cX11_sound : ByteArray := prog_13_method_34_code
def yX11_sound : MethodName := ⟨RX11, "sound", "(I)I"⟩
abbrev cX11_routine : ByteArray := prog_13_method_35_code
def yX11_routine : MethodName := ⟨RX11, "routine", "()I"⟩
abbrev cX11_readLine : ByteArray := prog_13_method_36_code
def yX11_readLine : MethodName := ⟨RX11, "readLine", "()V"⟩
abbrev cX11_rules : ByteArray := prog_13_method_37_code
def yX11_rules : MethodName := ⟨RX11, "rules", "(II)Z"⟩
abbrev cX11_wrongs : ByteArray := prog_13_method_38_code
def yX11_wrongs : MethodName := ⟨RX11, "wrongs", "(II)V"⟩
abbrev cX11_inMany : ByteArray := prog_13_method_39_code
def yX11_inMany : MethodName := ⟨RX11, "inMany", "()I"⟩
abbrev cX11_isAloneOn : ByteArray := prog_13_method_40_code
def yX11_isAloneOn : MethodName := ⟨RX11, "isAloneOn", "()Z"⟩
abbrev cX11_lawOf : ByteArray := prog_13_method_41_code
def yX11_lawOf : MethodName := ⟨RX11, "lawOf", "(I)I"⟩
abbrev cX11_act : ByteArray := prog_13_method_42_code
def yX11_act : MethodName := ⟨RX11, "act", "(I)V"⟩
abbrev cX11_wanted : ByteArray := prog_13_method_43_code
def yX11_wanted : MethodName := ⟨RX11, "wanted", "(I)I"⟩
abbrev cX11_isTorn : ByteArray := prog_13_method_44_code
def yX11_isTorn : MethodName := ⟨RX11, "isTorn", "()Z"⟩
abbrev cX11_stepAll : ByteArray := prog_13_method_45_code
def yX11_stepAll : MethodName := ⟨RX11, "stepAll", "()V"⟩
abbrev cX11_isHandsMissed : ByteArray := prog_13_method_46_code
def yX11_isHandsMissed : MethodName := ⟨RX11, "isHandsMissed", "()Z"⟩
abbrev cX11_isFootMissed : ByteArray := prog_13_method_47_code
def yX11_isFootMissed : MethodName := ⟨RX11, "isFootMissed", "()Z"⟩
abbrev cX11_breakOff : ByteArray := prog_13_method_48_code
def yX11_breakOff : MethodName := ⟨RX11, "breakOff", "()V"⟩
abbrev cX11_goOn : ByteArray := prog_13_method_49_code
def yX11_goOn : MethodName := ⟨RX11, "goOn", "()V"⟩
abbrev cX11_finish : ByteArray := prog_13_method_50_code
def yX11_finish : MethodName := ⟨RX11, "finish", "(I)V"⟩
abbrev cX11_changeHands : ByteArray := prog_13_method_51_code
def yX11_changeHands : MethodName := ⟨RX11, "changeHands", "()V"⟩
abbrev cX11_note : ByteArray := prog_13_method_52_code
def yX11_note : MethodName := ⟨RX11, "note", "()V"⟩
abbrev cX11_clear : ByteArray := prog_13_method_53_code
def yX11_clear : MethodName := ⟨RX11, "clear", "()V"⟩
abbrev cX11_run : ByteArray := prog_13_method_54_code
def yX11_run : MethodName := ⟨RX11, "run", "()I"⟩
abbrev cX11_rest : ByteArray := prog_13_method_55_code
def yX11_rest : MethodName := ⟨RX11, "rest", "()V"⟩
abbrev cX11_beat : ByteArray := prog_13_method_56_code
def yX11_beat : MethodName := ⟨RX11, "beat", "()V"⟩
abbrev cX11_ran : ByteArray := prog_13_method_57_code
def yX11_ran : MethodName := ⟨RX11, "ran", "(I)I"⟩
abbrev cX11_miss : ByteArray := prog_13_method_58_code
def yX11_miss : MethodName := ⟨RX11, "miss", "(II)I"⟩
abbrev cX11_done : ByteArray := prog_13_method_59_code
def yX11_done : MethodName := ⟨RX11, "done", "(II)I"⟩
abbrev cX11_isRanBeat : ByteArray := prog_13_method_60_code
def yX11_isRanBeat : MethodName := ⟨RX11, "isRanBeat", "(I)Z"⟩
abbrev cX11_isPerson : ByteArray := prog_13_method_61_code
def yX11_isPerson : MethodName := ⟨RX11, "isPerson", "(I)Z"⟩
abbrev cX11_mode : ByteArray := prog_13_method_62_code
def yX11_mode : MethodName := ⟨RX11, "mode", "(I)I"⟩
abbrev cX11_person : ByteArray := prog_13_method_63_code
def yX11_person : MethodName := ⟨RX11, "person", "(III)I"⟩
abbrev cX11_feet : ByteArray := prog_13_method_64_code
def yX11_feet : MethodName := ⟨RX11, "feet", "(II)I"⟩
abbrev cX11_spot : ByteArray := prog_13_method_65_code
def yX11_spot : MethodName := ⟨RX11, "spot", "(III)I"⟩
abbrev cX11_may : ByteArray := prog_13_method_66_code
def yX11_may : MethodName := ⟨RX11, "may", "(IZII)Z"⟩
abbrev cX11_footBehind : ByteArray := prog_13_method_67_code
def yX11_footBehind : MethodName := ⟨RX11, "footBehind", "(IZI)I"⟩
abbrev cX11_leads : ByteArray := prog_13_method_68_code
def yX11_leads : MethodName := ⟨RX11, "leads", "(IIIIZ)Z"⟩
abbrev cX11_reckonSets : ByteArray := prog_13_method_69_code
def yX11_reckonSets : MethodName := ⟨RX11, "reckonSets", "()V"⟩
abbrev cX11_sumOf : ByteArray := prog_13_method_70_code
def yX11_sumOf : MethodName := ⟨RX11, "sumOf", "(IZ)I"⟩
abbrev cX11_seek : ByteArray := prog_13_method_71_code
def yX11_seek : MethodName := ⟨RX11, "seek", "(III)Z"⟩
abbrev cX11_best : ByteArray := prog_13_method_72_code
def yX11_best : MethodName := ⟨RX11, "best", "(III)I"⟩
abbrev cX11_joined : ByteArray := prog_13_method_73_code
def yX11_joined : MethodName := ⟨RX11, "joined", "(IIIII)I"⟩
abbrev cX11_isVowel : ByteArray := prog_13_method_74_code
def yX11_isVowel : MethodName := ⟨RX11, "isVowel", "(I)Z"⟩
abbrev cX11_rhyme : ByteArray := prog_13_method_75_code
def yX11_rhyme : MethodName := ⟨RX11, "rhyme", "()I"⟩
abbrev cX11_word : ByteArray := prog_13_method_76_code
def yX11_word : MethodName := ⟨RX11, "word", "(I)I"⟩
abbrev cX11_stays : ByteArray := prog_13_method_77_code
def yX11_stays : MethodName := ⟨RX11, "stays", "(I)I"⟩
abbrev cX11_nextChild : ByteArray := prog_13_method_78_code
def yX11_nextChild : MethodName := ⟨RX11, "nextChild", "(II)I"⟩
abbrev cX11_tape : ByteArray := prog_13_method_79_code
def yX11_tape : MethodName := ⟨RX11, "tape", "(III)I"⟩
abbrev cX11_untell : ByteArray := prog_13_method_80_code
def yX11_untell : MethodName := ⟨RX11, "untell", "(I)Z"⟩
abbrev cX11_later : ByteArray := prog_13_method_81_code
def yX11_later : MethodName := ⟨RX11, "later", "(I)I"⟩
abbrev cX11_saw : ByteArray := prog_13_method_82_code
def yX11_saw : MethodName := ⟨RX11, "saw", "(IIII)I"⟩
abbrev cX11_seenAt : ByteArray := prog_13_method_83_code
def yX11_seenAt : MethodName := ⟨RX11, "seenAt", "(III)I"⟩
abbrev cX11_isTick : ByteArray := prog_13_method_84_code
def yX11_isTick : MethodName := ⟨RX11, "isTick", "(I)Z"⟩
abbrev cX11_seen : ByteArray := prog_13_method_85_code
def yX11_seen : MethodName := ⟨RX11, "seen", "(III)I"⟩
abbrev cX11_steps : ByteArray := prog_13_method_86_code
def yX11_steps : MethodName := ⟨RX11, "steps", "(IIIIZI)I"⟩
abbrev cX11_told : ByteArray := prog_13_method_87_code
def yX11_told : MethodName := ⟨RX11, "told", "(IIIZI)I"⟩
abbrev cX11_slip : ByteArray := prog_13_method_88_code
def yX11_slip : MethodName := ⟨RX11, "slip", "(IZI)I"⟩
abbrev cX11_about : ByteArray := prog_13_method_89_code
def yX11_about : MethodName := ⟨RX11, "about", "(I)I"⟩
abbrev cX11_feed : ByteArray := prog_13_method_90_code
def yX11_feed : MethodName := ⟨RX11, "feed", "(IIIII)I"⟩
abbrev cX11_end : ByteArray := prog_13_method_91_code
def yX11_end : MethodName := ⟨RX11, "end", "(I)I"⟩
def RJ6 : String := "java/lang/Integer"
def TJ6 : u_T := fun k => match k with
  | _ => ("", "", "", false)
def tyJ6 : Nat → FieldType := fun k => match k with
  | _ => .int
abbrev wsJ60 : List Cond := u_ws RJ6 TJ6 0
theorem nmJ6 : ∀ a, a < 0 → ∀ b, b < 0 → a ≠ b → (TJ6 a).2.1 ≠ (TJ6 b).2.1 := by decide +kernel
theorem tyJ6_ok : ∀ k, k < 0 → parseFieldDescriptor (TJ6 k).2.2.1 = some (tyJ6 k) := by decide +kernel
abbrev cJ6_numberOfTrailingZeros_0f7a4 : ByteArray := prog_14_method_48_code
def yJ6_numberOfTrailingZeros_0f7a4 : MethodName := ⟨RJ6, "numberOfTrailingZeros", "(I)I"⟩
def RJ9 : String := "java/lang/Math"
def TJ9 : u_T := fun k => match k with
  | _ => ("", "", "", false)
def tyJ9 : Nat → FieldType := fun k => match k with
  | _ => .int
abbrev wsJ90 : List Cond := u_ws RJ9 TJ9 0
theorem nmJ9 : ∀ a, a < 0 → ∀ b, b < 0 → a ≠ b → (TJ9 a).2.1 ≠ (TJ9 b).2.1 := by decide +kernel
theorem tyJ9_ok : ∀ k, k < 0 → parseFieldDescriptor (TJ9 k).2.2.1 = some (tyJ9 k) := by decide +kernel
abbrev cJ9_max_7cf53 : ByteArray := prog_15_method_65_code
def yJ9_max_7cf53 : MethodName := ⟨RJ9, "max", "(II)I"⟩
abbrev cJ9_min_7cf53 : ByteArray := prog_15_method_69_code
def yJ9_min_7cf53 : MethodName := ⟨RJ9, "min", "(II)I"⟩
def RJ0 : String := "java/lang/String"
def TJ0 : u_T := fun k => match k with
  | _ => ("", "", "", false)
def tyJ0 : Nat → FieldType := fun k => match k with
  | _ => .int
abbrev wsJ00 : List Cond := u_ws RJ0 TJ0 0
theorem nmJ0 : ∀ a, a < 0 → ∀ b, b < 0 → a ≠ b → (TJ0 a).2.1 ≠ (TJ0 b).2.1 := by decide +kernel
theorem tyJ0_ok : ∀ k, k < 0 → parseFieldDescriptor (TJ0 k).2.2.1 = some (tyJ0 k) := by decide +kernel
abbrev cJ0_length_8abf5 : ByteArray := prog_16_method_54_code
def yJ0_length_8abf5 : MethodName := ⟨RJ0, "length", "()I"⟩
abbrev cJ0_charAt_5068e : ByteArray := prog_16_method_56_code
def yJ0_charAt_5068e : MethodName := ⟨RJ0, "charAt", "(I)C"⟩
abbrev cJ0_coder_7d493 : ByteArray := prog_16_method_152_code
def yJ0_coder_7d493 : MethodName := ⟨RJ0, "coder", "()B"⟩
abbrev cJ0_isLatin1_aae02 : ByteArray := prog_16_method_154_code
def yJ0_isLatin1_aae02 : MethodName := ⟨RJ0, "isLatin1", "()Z"⟩
abbrev cJ0_checkIndex_df160 : ByteArray := prog_16_method_155_code
def yJ0_checkIndex_df160 : MethodName := ⟨RJ0, "checkIndex", "(II)V"⟩
def RJ1 : String := "java/lang/StringLatin1"
def TJ1 : u_T := fun k => match k with
  | _ => ("", "", "", false)
def tyJ1 : Nat → FieldType := fun k => match k with
  | _ => .int
abbrev wsJ10 : List Cond := u_ws RJ1 TJ1 0
theorem nmJ1 : ∀ a, a < 0 → ∀ b, b < 0 → a ≠ b → (TJ1 a).2.1 ≠ (TJ1 b).2.1 := by decide +kernel
theorem tyJ1_ok : ∀ k, k < 0 → parseFieldDescriptor (TJ1 k).2.2.1 = some (tyJ1 k) := by decide +kernel
abbrev cJ1_charAt_3b067 : ByteArray := prog_17_method_2_code
def yJ1_charAt_3b067 : MethodName := ⟨RJ1, "charAt", "([BI)C"⟩
def RJ2 : String := "java/lang/StringUTF16"
def TJ2 : u_T := fun k => match k with
  | _ => ("", "", "", false)
def tyJ2 : Nat → FieldType := fun k => match k with
  | _ => .int
abbrev wsJ20 : List Cond := u_ws RJ2 TJ2 0
theorem nmJ2 : ∀ a, a < 0 → ∀ b, b < 0 → a ≠ b → (TJ2 a).2.1 ≠ (TJ2 b).2.1 := by decide +kernel
theorem tyJ2_ok : ∀ k, k < 0 → parseFieldDescriptor (TJ2 k).2.2.1 = some (tyJ2 k) := by decide +kernel
abbrev cJ2_getChar_3b067 : ByteArray := prog_18_method_5_code
def yJ2_getChar_3b067 : MethodName := ⟨RJ2, "getChar", "([BI)C"⟩
abbrev cJ2_length_9d52b : ByteArray := prog_18_method_6_code
def yJ2_length_9d52b : MethodName := ⟨RJ2, "length", "([B)I"⟩
abbrev cJ2_charAt_3b067 : ByteArray := prog_18_method_83_code
def yJ2_charAt_3b067 : MethodName := ⟨RJ2, "charAt", "([BI)C"⟩
abbrev cJ2_checkIndex_2214a : ByteArray := prog_18_method_91_code
def yJ2_checkIndex_2214a : MethodName := ⟨RJ2, "checkIndex", "(I[B)V"⟩
def RJ7 : String := "java/util/Arrays"
def TJ7 : u_T := fun k => match k with
  | _ => ("", "", "", false)
def tyJ7 : Nat → FieldType := fun k => match k with
  | _ => .int
abbrev wsJ70 : List Cond := u_ws RJ7 TJ7 0
theorem nmJ7 : ∀ a, a < 0 → ∀ b, b < 0 → a ≠ b → (TJ7 a).2.1 ≠ (TJ7 b).2.1 := by decide +kernel
theorem tyJ7_ok : ∀ k, k < 0 → parseFieldDescriptor (TJ7 k).2.2.1 = some (tyJ7 k) := by decide +kernel
abbrev cJ7_fill_53178 : ByteArray := prog_19_method_103_code
def yJ7_fill_53178 : MethodName := ⟨RJ7, "fill", "([II)V"⟩
def RJ3 : String := "jdk/internal/util/Preconditions"
def TJ3 : u_T := fun k => match k with
  | _ => ("", "", "", false)
def tyJ3 : Nat → FieldType := fun k => match k with
  | _ => .int
abbrev wsJ30 : List Cond := u_ws RJ3 TJ3 0
theorem nmJ3 : ∀ a, a < 0 → ∀ b, b < 0 → a ≠ b → (TJ3 a).2.1 ≠ (TJ3 b).2.1 := by decide +kernel
theorem tyJ3_ok : ∀ k, k < 0 → parseFieldDescriptor (TJ3 k).2.2.1 = some (tyJ3 k) := by decide +kernel
abbrev cJ3_checkIndex_8e157 : ByteArray := prog_20_method_11_code
def yJ3_checkIndex_8e157 : MethodName := ⟨RJ3, "checkIndex", "(IILjava/util/function/BiFunction;)I"⟩
def RL : String := "TwoRopesLaw"
abbrev cL_law : ByteArray := code
def yL_law : MethodName := ⟨RL, "law", "([I)Z"⟩
abbrev vwCl : List vw_C := [(RX0, TX0, 2), (RX1, TX1, 11), (RX2, TX2, 11), (RX3, TX3, 7), (RX4, TX4, 11), (RX5, TX5, 10), (RX6, TX6, 3), (RX7, TX7, 7), (RX8, TX8, 9), (RX9, TX9, 6), (RX10, TX10, 14), (RX11, TX11, 86)]
